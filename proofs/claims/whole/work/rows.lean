section
/-- a private method of a class that the tables say can be made, by its rows of tables_1 -/
def lw_okq (q : MethodName × Nat) : Prop := (q.1.cls ≠ "java/lang/invoke/MethodHandle" ∧ q.1.cls ≠ "java/lang/invoke/VarHandle") ∧ Cond.instantiable q.1.cls q.2 ∈ tables_1 ∧ Cond.privateMethod q.1 ∈ tables_1 ∧ Cond.instanceMethod q.1 ∈ tables_1
theorem lw_p0 : lw_okq (⟨"java/lang/Throwable", "fillInStackTrace", "(I)Ljava/lang/Throwable;"⟩, 6) := ⟨⟨by decide +kernel, by decide +kernel⟩, List.mem_of_getElem? (i := 349) (by decide +kernel), List.mem_of_getElem? (i := 347) (by decide +kernel), List.mem_of_getElem? (i := 348) (by decide +kernel)⟩
theorem lw_p1 : lw_okq (⟨"FeastLedger$TextReader", "skipBlanks", "()V"⟩, 11) := ⟨⟨by decide +kernel, by decide +kernel⟩, List.mem_of_getElem? (i := 48) (by decide +kernel), List.mem_of_getElem? (i := 414) (by decide +kernel), List.mem_of_getElem? (i := 415) (by decide +kernel)⟩
theorem lw_p2 : lw_okq (⟨"FeastLedger$TextReader", "readClause", "(I)V"⟩, 11) := ⟨⟨by decide +kernel, by decide +kernel⟩, List.mem_of_getElem? (i := 48) (by decide +kernel), List.mem_of_getElem? (i := 418) (by decide +kernel), List.mem_of_getElem? (i := 419) (by decide +kernel)⟩
theorem lw_p3 : lw_okq (⟨"FeastLedger$TextReader", "skipLetters", "()V"⟩, 11) := ⟨⟨by decide +kernel, by decide +kernel⟩, List.mem_of_getElem? (i := 48) (by decide +kernel), List.mem_of_getElem? (i := 422) (by decide +kernel), List.mem_of_getElem? (i := 423) (by decide +kernel)⟩
theorem lw_p4 : lw_okq (⟨"FeastLedger$TextReader", "spells", "(ILjava/lang/String;)Z"⟩, 11) := ⟨⟨by decide +kernel, by decide +kernel⟩, List.mem_of_getElem? (i := 48) (by decide +kernel), List.mem_of_getElem? (i := 427) (by decide +kernel), List.mem_of_getElem? (i := 428) (by decide +kernel)⟩
theorem lw_p5 : lw_okq (⟨"FeastLedger$TextReader", "mark", "(II)V"⟩, 11) := ⟨⟨by decide +kernel, by decide +kernel⟩, List.mem_of_getElem? (i := 48) (by decide +kernel), List.mem_of_getElem? (i := 481) (by decide +kernel), List.mem_of_getElem? (i := 482) (by decide +kernel)⟩
theorem lw_p6 : lw_okq (⟨"FeastLedger$TextReader", "readReturn", "()V"⟩, 11) := ⟨⟨by decide +kernel, by decide +kernel⟩, List.mem_of_getElem? (i := 48) (by decide +kernel), List.mem_of_getElem? (i := 485) (by decide +kernel), List.mem_of_getElem? (i := 486) (by decide +kernel)⟩
theorem lw_p7 : lw_okq (⟨"FeastLedger$TextReader", "readNumber", "(I)I"⟩, 11) := ⟨⟨by decide +kernel, by decide +kernel⟩, List.mem_of_getElem? (i := 48) (by decide +kernel), List.mem_of_getElem? (i := 489) (by decide +kernel), List.mem_of_getElem? (i := 490) (by decide +kernel)⟩
theorem lw_p8 : lw_okq (⟨"FeastLedger$TextReader", "readSign", "(C)V"⟩, 11) := ⟨⟨by decide +kernel, by decide +kernel⟩, List.mem_of_getElem? (i := 48) (by decide +kernel), List.mem_of_getElem? (i := 496) (by decide +kernel), List.mem_of_getElem? (i := 497) (by decide +kernel)⟩
theorem lw_p9 : lw_okq (⟨"FeastLedger$TextReader", "readWithin", "()V"⟩, 11) := ⟨⟨by decide +kernel, by decide +kernel⟩, List.mem_of_getElem? (i := 48) (by decide +kernel), List.mem_of_getElem? (i := 500) (by decide +kernel), List.mem_of_getElem? (i := 501) (by decide +kernel)⟩
theorem lw_p10 : lw_okq (⟨"FeastLedger$TextReader", "readLoan", "()V"⟩, 11) := ⟨⟨by decide +kernel, by decide +kernel⟩, List.mem_of_getElem? (i := 48) (by decide +kernel), List.mem_of_getElem? (i := 505) (by decide +kernel), List.mem_of_getElem? (i := 506) (by decide +kernel)⟩
theorem lw_p11 : lw_okq (⟨"FeastLedger", "checkHandingOver", "(III)V"⟩, 9) := ⟨⟨by decide +kernel, by decide +kernel⟩, List.mem_of_getElem? (i := 24) (by decide +kernel), List.mem_of_getElem? (i := 521) (by decide +kernel), List.mem_of_getElem? (i := 522) (by decide +kernel)⟩
theorem lw_p12 : lw_okq (⟨"FeastLedger", "checkChief", "(I)V"⟩, 9) := ⟨⟨by decide +kernel, by decide +kernel⟩, List.mem_of_getElem? (i := 24) (by decide +kernel), List.mem_of_getElem? (i := 525) (by decide +kernel), List.mem_of_getElem? (i := 526) (by decide +kernel)⟩
theorem lw_p13 : lw_okq (⟨"FeastLedger", "checkLives", "(I)V"⟩, 9) := ⟨⟨by decide +kernel, by decide +kernel⟩, List.mem_of_getElem? (i := 24) (by decide +kernel), List.mem_of_getElem? (i := 546) (by decide +kernel), List.mem_of_getElem? (i := 547) (by decide +kernel)⟩
theorem lw_p14 : lw_okq (⟨"FeastLedger", "debtsMadeBy", "(III)I"⟩, 9) := ⟨⟨by decide +kernel, by decide +kernel⟩, List.mem_of_getElem? (i := 24) (by decide +kernel), List.mem_of_getElem? (i := 551) (by decide +kernel), List.mem_of_getElem? (i := 552) (by decide +kernel)⟩
theorem lw_p15 : lw_okq (⟨"FeastLedger$Debts", "isOpenBetween", "(III)Z"⟩, 5) := ⟨⟨by decide +kernel, by decide +kernel⟩, List.mem_of_getElem? (i := 155) (by decide +kernel), List.mem_of_getElem? (i := 559) (by decide +kernel), List.mem_of_getElem? (i := 560) (by decide +kernel)⟩
def lw_privs_1 : List (MethodName × Nat) := [(⟨"java/lang/Throwable", "fillInStackTrace", "(I)Ljava/lang/Throwable;"⟩, 6), (⟨"FeastLedger$TextReader", "skipBlanks", "()V"⟩, 11), (⟨"FeastLedger$TextReader", "readClause", "(I)V"⟩, 11), (⟨"FeastLedger$TextReader", "skipLetters", "()V"⟩, 11), (⟨"FeastLedger$TextReader", "spells", "(ILjava/lang/String;)Z"⟩, 11), (⟨"FeastLedger$TextReader", "mark", "(II)V"⟩, 11), (⟨"FeastLedger$TextReader", "readReturn", "()V"⟩, 11), (⟨"FeastLedger$TextReader", "readNumber", "(I)I"⟩, 11), (⟨"FeastLedger$TextReader", "readSign", "(C)V"⟩, 11), (⟨"FeastLedger$TextReader", "readWithin", "()V"⟩, 11), (⟨"FeastLedger$TextReader", "readLoan", "()V"⟩, 11), (⟨"FeastLedger", "checkHandingOver", "(III)V"⟩, 9), (⟨"FeastLedger", "checkChief", "(I)V"⟩, 9), (⟨"FeastLedger", "checkLives", "(I)V"⟩, 9), (⟨"FeastLedger", "debtsMadeBy", "(III)I"⟩, 9), (⟨"FeastLedger$Debts", "isOpenBetween", "(III)Z"⟩, 5)]
theorem lw_r1 : ∀ q ∈ lw_privs_1, lw_okq q := List.forall_mem_cons.mpr ⟨lw_p0, List.forall_mem_cons.mpr ⟨lw_p1, List.forall_mem_cons.mpr ⟨lw_p2, List.forall_mem_cons.mpr ⟨lw_p3, List.forall_mem_cons.mpr ⟨lw_p4, List.forall_mem_cons.mpr ⟨lw_p5, List.forall_mem_cons.mpr ⟨lw_p6, List.forall_mem_cons.mpr ⟨lw_p7, List.forall_mem_cons.mpr ⟨lw_p8, List.forall_mem_cons.mpr ⟨lw_p9, List.forall_mem_cons.mpr ⟨lw_p10, List.forall_mem_cons.mpr ⟨lw_p11, List.forall_mem_cons.mpr ⟨lw_p12, List.forall_mem_cons.mpr ⟨lw_p13, List.forall_mem_cons.mpr ⟨lw_p14, List.forall_mem_cons.mpr ⟨lw_p15, fun _ h => absurd h List.not_mem_nil⟩⟩⟩⟩⟩⟩⟩⟩⟩⟩⟩⟩⟩⟩⟩⟩
theorem lw_p16 : lw_okq (⟨"FeastLedger", "recordGiven", "(III)I"⟩, 9) := ⟨⟨by decide +kernel, by decide +kernel⟩, List.mem_of_getElem? (i := 24) (by decide +kernel), List.mem_of_getElem? (i := 580) (by decide +kernel), List.mem_of_getElem? (i := 581) (by decide +kernel)⟩
theorem lw_p17 : lw_okq (⟨"FeastLedger$Debts", "firstToAnswer", "(II)I"⟩, 5) := ⟨⟨by decide +kernel, by decide +kernel⟩, List.mem_of_getElem? (i := 155) (by decide +kernel), List.mem_of_getElem? (i := 588) (by decide +kernel), List.mem_of_getElem? (i := 589) (by decide +kernel)⟩
theorem lw_p18 : lw_okq (⟨"FeastLedger$Debts", "turn", "(I)I"⟩, 5) := ⟨⟨by decide +kernel, by decide +kernel⟩, List.mem_of_getElem? (i := 155) (by decide +kernel), List.mem_of_getElem? (i := 592) (by decide +kernel), List.mem_of_getElem? (i := 593) (by decide +kernel)⟩
theorem lw_p19 : lw_okq (⟨"FeastLedger", "checkCopper", "(I)V"⟩, 9) := ⟨⟨by decide +kernel, by decide +kernel⟩, List.mem_of_getElem? (i := 24) (by decide +kernel), List.mem_of_getElem? (i := 633) (by decide +kernel), List.mem_of_getElem? (i := 634) (by decide +kernel)⟩
theorem lw_p20 : lw_okq (⟨"FeastLedger", "checkFeast", "(IIII)V"⟩, 9) := ⟨⟨by decide +kernel, by decide +kernel⟩, List.mem_of_getElem? (i := 24) (by decide +kernel), List.mem_of_getElem? (i := 668) (by decide +kernel), List.mem_of_getElem? (i := 669) (by decide +kernel)⟩
theorem lw_p21 : lw_okq (⟨"FeastLedger", "debtsMadeByFeast", "(III)I"⟩, 9) := ⟨⟨by decide +kernel, by decide +kernel⟩, List.mem_of_getElem? (i := 24) (by decide +kernel), List.mem_of_getElem? (i := 688) (by decide +kernel), List.mem_of_getElem? (i := 689) (by decide +kernel)⟩
theorem lw_p22 : lw_okq (⟨"FeastLedger", "growLoans", "()V"⟩, 9) := ⟨⟨by decide +kernel, by decide +kernel⟩, List.mem_of_getElem? (i := 24) (by decide +kernel), List.mem_of_getElem? (i := 716) (by decide +kernel), List.mem_of_getElem? (i := 717) (by decide +kernel)⟩
theorem lw_p23 : lw_okq (⟨"FeastLedger$Gathering", "nearestGiver", "(I)I"⟩, 5) := ⟨⟨by decide +kernel, by decide +kernel⟩, List.mem_of_getElem? (i := 209) (by decide +kernel), List.mem_of_getElem? (i := 770) (by decide +kernel), List.mem_of_getElem? (i := 771) (by decide +kernel)⟩
theorem lw_p24 : lw_okq (⟨"FeastLedger$Gathering", "handOn", "(II)J"⟩, 5) := ⟨⟨by decide +kernel, by decide +kernel⟩, List.mem_of_getElem? (i := 209) (by decide +kernel), List.mem_of_getElem? (i := 774) (by decide +kernel), List.mem_of_getElem? (i := 775) (by decide +kernel)⟩
theorem lw_p25 : lw_okq (⟨"FeastLedgerModel", "bad", "(ZI)Z"⟩, 31) := ⟨⟨by decide +kernel, by decide +kernel⟩, List.mem_of_getElem? (i := 790) (by decide +kernel), List.mem_of_getElem? (i := 899) (by decide +kernel), List.mem_of_getElem? (i := 900) (by decide +kernel)⟩
theorem lw_p26 : lw_okq (⟨"FeastLedgerModel", "blanks", "()V"⟩, 31) := ⟨⟨by decide +kernel, by decide +kernel⟩, List.mem_of_getElem? (i := 790) (by decide +kernel), List.mem_of_getElem? (i := 911) (by decide +kernel), List.mem_of_getElem? (i := 912) (by decide +kernel)⟩
theorem lw_p27 : lw_okq (⟨"FeastLedgerModel", "byteAt", "(I)I"⟩, 31) := ⟨⟨by decide +kernel, by decide +kernel⟩, List.mem_of_getElem? (i := 790) (by decide +kernel), List.mem_of_getElem? (i := 915) (by decide +kernel), List.mem_of_getElem? (i := 916) (by decide +kernel)⟩
theorem lw_p28 : lw_okq (⟨"FeastLedgerModel", "isWord", "(Ljava/lang/String;)Z"⟩, 31) := ⟨⟨by decide +kernel, by decide +kernel⟩, List.mem_of_getElem? (i := 790) (by decide +kernel), List.mem_of_getElem? (i := 920) (by decide +kernel), List.mem_of_getElem? (i := 921) (by decide +kernel)⟩
theorem lw_p29 : lw_okq (⟨"FeastLedgerModel", "wrong", "(II)V"⟩, 31) := ⟨⟨by decide +kernel, by decide +kernel⟩, List.mem_of_getElem? (i := 790) (by decide +kernel), List.mem_of_getElem? (i := 931) (by decide +kernel), List.mem_of_getElem? (i := 932) (by decide +kernel)⟩
theorem lw_p30 : lw_okq (⟨"FeastLedgerModel", "clause", "(I)V"⟩, 31) := ⟨⟨by decide +kernel, by decide +kernel⟩, List.mem_of_getElem? (i := 790) (by decide +kernel), List.mem_of_getElem? (i := 935) (by decide +kernel), List.mem_of_getElem? (i := 936) (by decide +kernel)⟩
theorem lw_p31 : lw_okq (⟨"FeastLedgerModel", "need", "(Ljava/lang/String;)V"⟩, 31) := ⟨⟨by decide +kernel, by decide +kernel⟩, List.mem_of_getElem? (i := 790) (by decide +kernel), List.mem_of_getElem? (i := 939) (by decide +kernel), List.mem_of_getElem? (i := 940) (by decide +kernel)⟩
def lw_privs_2 : List (MethodName × Nat) := [(⟨"FeastLedger", "recordGiven", "(III)I"⟩, 9), (⟨"FeastLedger$Debts", "firstToAnswer", "(II)I"⟩, 5), (⟨"FeastLedger$Debts", "turn", "(I)I"⟩, 5), (⟨"FeastLedger", "checkCopper", "(I)V"⟩, 9), (⟨"FeastLedger", "checkFeast", "(IIII)V"⟩, 9), (⟨"FeastLedger", "debtsMadeByFeast", "(III)I"⟩, 9), (⟨"FeastLedger", "growLoans", "()V"⟩, 9), (⟨"FeastLedger$Gathering", "nearestGiver", "(I)I"⟩, 5), (⟨"FeastLedger$Gathering", "handOn", "(II)J"⟩, 5), (⟨"FeastLedgerModel", "bad", "(ZI)Z"⟩, 31), (⟨"FeastLedgerModel", "blanks", "()V"⟩, 31), (⟨"FeastLedgerModel", "byteAt", "(I)I"⟩, 31), (⟨"FeastLedgerModel", "isWord", "(Ljava/lang/String;)Z"⟩, 31), (⟨"FeastLedgerModel", "wrong", "(II)V"⟩, 31), (⟨"FeastLedgerModel", "clause", "(I)V"⟩, 31), (⟨"FeastLedgerModel", "need", "(Ljava/lang/String;)V"⟩, 31)]
theorem lw_r2 : ∀ q ∈ lw_privs_2, lw_okq q := List.forall_mem_cons.mpr ⟨lw_p16, List.forall_mem_cons.mpr ⟨lw_p17, List.forall_mem_cons.mpr ⟨lw_p18, List.forall_mem_cons.mpr ⟨lw_p19, List.forall_mem_cons.mpr ⟨lw_p20, List.forall_mem_cons.mpr ⟨lw_p21, List.forall_mem_cons.mpr ⟨lw_p22, List.forall_mem_cons.mpr ⟨lw_p23, List.forall_mem_cons.mpr ⟨lw_p24, List.forall_mem_cons.mpr ⟨lw_p25, List.forall_mem_cons.mpr ⟨lw_p26, List.forall_mem_cons.mpr ⟨lw_p27, List.forall_mem_cons.mpr ⟨lw_p28, List.forall_mem_cons.mpr ⟨lw_p29, List.forall_mem_cons.mpr ⟨lw_p30, List.forall_mem_cons.mpr ⟨lw_p31, fun _ h => absurd h List.not_mem_nil⟩⟩⟩⟩⟩⟩⟩⟩⟩⟩⟩⟩⟩⟩⟩⟩
theorem lw_p32 : lw_okq (⟨"FeastLedgerModel", "number", "(I)I"⟩, 31) := ⟨⟨by decide +kernel, by decide +kernel⟩, List.mem_of_getElem? (i := 790) (by decide +kernel), List.mem_of_getElem? (i := 943) (by decide +kernel), List.mem_of_getElem? (i := 944) (by decide +kernel)⟩
theorem lw_p33 : lw_okq (⟨"FeastLedgerModel", "sign", "(I)V"⟩, 31) := ⟨⟨by decide +kernel, by decide +kernel⟩, List.mem_of_getElem? (i := 790) (by decide +kernel), List.mem_of_getElem? (i := 950) (by decide +kernel), List.mem_of_getElem? (i := 951) (by decide +kernel)⟩
theorem lw_p34 : lw_okq (⟨"FeastLedgerModel", "forceOf", "(I)I"⟩, 31) := ⟨⟨by decide +kernel, by decide +kernel⟩, List.mem_of_getElem? (i := 790) (by decide +kernel), List.mem_of_getElem? (i := 963) (by decide +kernel), List.mem_of_getElem? (i := 964) (by decide +kernel)⟩
theorem lw_p35 : lw_okq (⟨"FeastLedgerModel", "isPair", "(III)Z"⟩, 31) := ⟨⟨by decide +kernel, by decide +kernel⟩, List.mem_of_getElem? (i := 790) (by decide +kernel), List.mem_of_getElem? (i := 971) (by decide +kernel), List.mem_of_getElem? (i := 972) (by decide +kernel)⟩
theorem lw_p36 : lw_okq (⟨"FeastLedgerModel", "isChief", "(I)Z"⟩, 31) := ⟨⟨by decide +kernel, by decide +kernel⟩, List.mem_of_getElem? (i := 790) (by decide +kernel), List.mem_of_getElem? (i := 975) (by decide +kernel), List.mem_of_getElem? (i := 976) (by decide +kernel)⟩
theorem lw_p37 : lw_okq (⟨"FeastLedgerModel", "madeOf", "(IIJ)J"⟩, 31) := ⟨⟨by decide +kernel, by decide +kernel⟩, List.mem_of_getElem? (i := 790) (by decide +kernel), List.mem_of_getElem? (i := 979) (by decide +kernel), List.mem_of_getElem? (i := 980) (by decide +kernel)⟩
theorem lw_p38 : lw_okq (⟨"FeastLedgerModel", "allOwed", "(II)J"⟩, 31) := ⟨⟨by decide +kernel, by decide +kernel⟩, List.mem_of_getElem? (i := 790) (by decide +kernel), List.mem_of_getElem? (i := 983) (by decide +kernel), List.mem_of_getElem? (i := 984) (by decide +kernel)⟩
theorem lw_p39 : lw_okq (⟨"FeastLedgerModel", "term", "(I)I"⟩, 31) := ⟨⟨by decide +kernel, by decide +kernel⟩, List.mem_of_getElem? (i := 790) (by decide +kernel), List.mem_of_getElem? (i := 987) (by decide +kernel), List.mem_of_getElem? (i := 988) (by decide +kernel)⟩
theorem lw_p40 : lw_okq (⟨"FeastLedgerModel", "gives", "(III)I"⟩, 31) := ⟨⟨by decide +kernel, by decide +kernel⟩, List.mem_of_getElem? (i := 790) (by decide +kernel), List.mem_of_getElem? (i := 992) (by decide +kernel), List.mem_of_getElem? (i := 993) (by decide +kernel)⟩
theorem lw_p41 : lw_okq (⟨"FeastLedgerModel", "next", "(II)I"⟩, 31) := ⟨⟨by decide +kernel, by decide +kernel⟩, List.mem_of_getElem? (i := 790) (by decide +kernel), List.mem_of_getElem? (i := 996) (by decide +kernel), List.mem_of_getElem? (i := 997) (by decide +kernel)⟩
theorem lw_p42 : lw_okq (⟨"FeastLedgerModel", "owe", "(IIJZI)V"⟩, 31) := ⟨⟨by decide +kernel, by decide +kernel⟩, List.mem_of_getElem? (i := 790) (by decide +kernel), List.mem_of_getElem? (i := 1000) (by decide +kernel), List.mem_of_getElem? (i := 1001) (by decide +kernel)⟩
theorem lw_p43 : lw_okq (⟨"FeastLedgerModel", "isCopper", "(I)Z"⟩, 31) := ⟨⟨by decide +kernel, by decide +kernel⟩, List.mem_of_getElem? (i := 790) (by decide +kernel), List.mem_of_getElem? (i := 1016) (by decide +kernel), List.mem_of_getElem? (i := 1017) (by decide +kernel)⟩
theorem lw_p44 : lw_okq (⟨"FeastLedgerModel", "gathers", "(II)J"⟩, 31) := ⟨⟨by decide +kernel, by decide +kernel⟩, List.mem_of_getElem? (i := 790) (by decide +kernel), List.mem_of_getElem? (i := 1065) (by decide +kernel), List.mem_of_getElem? (i := 1066) (by decide +kernel)⟩
theorem lw_p45 : lw_okq (⟨"FeastLedgerModel", "ways", "(I)V"⟩, 31) := ⟨⟨by decide +kernel, by decide +kernel⟩, List.mem_of_getElem? (i := 790) (by decide +kernel), List.mem_of_getElem? (i := 1069) (by decide +kernel), List.mem_of_getElem? (i := 1070) (by decide +kernel)⟩
def lw_privs_3 : List (MethodName × Nat) := [(⟨"FeastLedgerModel", "number", "(I)I"⟩, 31), (⟨"FeastLedgerModel", "sign", "(I)V"⟩, 31), (⟨"FeastLedgerModel", "forceOf", "(I)I"⟩, 31), (⟨"FeastLedgerModel", "isPair", "(III)Z"⟩, 31), (⟨"FeastLedgerModel", "isChief", "(I)Z"⟩, 31), (⟨"FeastLedgerModel", "madeOf", "(IIJ)J"⟩, 31), (⟨"FeastLedgerModel", "allOwed", "(II)J"⟩, 31), (⟨"FeastLedgerModel", "term", "(I)I"⟩, 31), (⟨"FeastLedgerModel", "gives", "(III)I"⟩, 31), (⟨"FeastLedgerModel", "next", "(II)I"⟩, 31), (⟨"FeastLedgerModel", "owe", "(IIJZI)V"⟩, 31), (⟨"FeastLedgerModel", "isCopper", "(I)Z"⟩, 31), (⟨"FeastLedgerModel", "gathers", "(II)J"⟩, 31), (⟨"FeastLedgerModel", "ways", "(I)V"⟩, 31)]
theorem lw_r3 : ∀ q ∈ lw_privs_3, lw_okq q := List.forall_mem_cons.mpr ⟨lw_p32, List.forall_mem_cons.mpr ⟨lw_p33, List.forall_mem_cons.mpr ⟨lw_p34, List.forall_mem_cons.mpr ⟨lw_p35, List.forall_mem_cons.mpr ⟨lw_p36, List.forall_mem_cons.mpr ⟨lw_p37, List.forall_mem_cons.mpr ⟨lw_p38, List.forall_mem_cons.mpr ⟨lw_p39, List.forall_mem_cons.mpr ⟨lw_p40, List.forall_mem_cons.mpr ⟨lw_p41, List.forall_mem_cons.mpr ⟨lw_p42, List.forall_mem_cons.mpr ⟨lw_p43, List.forall_mem_cons.mpr ⟨lw_p44, List.forall_mem_cons.mpr ⟨lw_p45, fun _ h => absurd h List.not_mem_nil⟩⟩⟩⟩⟩⟩⟩⟩⟩⟩⟩⟩⟩⟩
def lw_privs : List (MethodName × Nat) := lw_privs_1 ++ (lw_privs_2 ++ (lw_privs_3))
def lw_tbl : List Cond := k2_sels lw_privs ++ tables_1
theorem lw_privs_ok : ∀ q ∈ lw_privs, lw_okq q := by
  show ∀ q ∈ lw_privs_1 ++ (lw_privs_2 ++ (lw_privs_3)), lw_okq q
  exact List.forall_mem_append.mpr ⟨lw_r1, List.forall_mem_append.mpr ⟨lw_r2, lw_r3⟩⟩
end
section
/-- a word of arrays over arrays, wanted by va_mna -/
def va_AOA (ty : FieldType) (U : State) : Prop := (Cond.arrayOver (.array ty)).before #[] U = true
theorem va_AOA.of {ty : FieldType} {A : Array Value} {U : State} (h : (Cond.arrayOver (.array ty)).before A U = true) : va_AOA ty U := h
theorem va_AOA.use {ty : FieldType} {A : Array Value} {U : State} (h : va_AOA ty U) : (Cond.arrayOver (.array ty)).before A U = true := h
/-! ===== BEGIN words of one list among another's, by their places ===== -/
theorem goodIn_r {big : List Cond} (ws : List Cond) (ps : List Nat) (hp : ws = ps.filterMap (fun i => big[i]?)) (h : ws.all goodWord = true) : GoodIn big ws := by
  intro w hw
  have h1 := List.all_eq_true.mp h w hw
  rw [hp] at hw
  obtain ⟨i, -, hi⟩ := List.mem_filterMap.mp hw
  have hm : w ∈ big := by first | exact List.mem_of_getElem? hi | exact List.getElem?_mem hi
  exact ⟨hm, good_of_word h1⟩
theorem goodIn_app {big a b : List Cond} (ha : GoodIn big a) (hb : GoodIn big b) : GoodIn big (a ++ b) := fun w h => (List.mem_append.mp h).elim (ha w) (hb w)
theorem goodIn_ca {big a b : List Cond} {c : Cond} (ha : GoodIn big (c :: a)) (hb : GoodIn big b) : GoodIn big (c :: (a ++ b)) := fun w h => (List.mem_cons.mp h).elim (fun e => ha w (List.mem_cons.mpr (Or.inl e))) (fun h => (List.mem_append.mp h).elim (fun h => ha w (List.mem_cons.mpr (Or.inr h))) (hb w))
theorem goodIn_sub {big ws : List Cond} (hm : ∀ w ∈ ws, w ∈ big) (h : ws.all goodWord = true) : GoodIn big ws := fun w hw => ⟨hm w hw, good_of_word (List.all_eq_true.mp h w hw)⟩
/-! ===== END ===== -/

/-! ===== BEGIN new T[n][m]: the outer array a place, the inner ones among the pooled ===== -/
/-- f, but v at every address of l -/
def vr_up {α : Type} (f : Nat → α) (l : List Nat) (v : α) : Nat → α := fun a => if a ∈ l then v else f a
theorem vr_up_in {α : Type} {f : Nat → α} {l : List Nat} {v : α} {a : Nat} (h : a ∈ l) : vr_up f l v a = v := if_pos h
theorem vr_up_ne {α : Type} {f : Nat → α} {l : List Nat} {v : α} {a : Nat} (h : a ∉ l) : vr_up f l v a = f a := if_neg h
theorem vr_rows {L l : List Nat} {f : Nat → va_E} {e : va_E} (h : ∀ a, a ∈ l → a ∉ L) : va_pl L f ++ l.map (fun a => (a, e)) = va_pl (L ++ l) (vr_up f l e) := by
  unfold va_pl
  rw [List.map_append]
  congr 1
  · apply List.map_congr_left
    intro a ha
    rw [vr_up_ne (fun q => h a q ha)]
  · apply List.map_congr_left
    intro a ha
    rw [vr_up_in ha]
theorem vr_lay {X rows : va_W} {x : Nat × va_E} {pl : va_W} {D : va_G} {cl : List vw_C} {H : Heap} (hP : va_P D cl (((X ++ pl) ++ [x]) ++ rows) H) : va_P D cl ((X ++ [x]) ++ (pl ++ rows)) H := by
  rw [List.append_assoc (X ++ pl)] at hP
  have h := va_P.swap hP
  rw [← List.append_assoc X] at h
  have h2 := va_P.swap h
  rw [List.append_assoc (X ++ [x])] at h2
  exact h2
theorem vr_layD {X rows : va_W} {x : Nat × va_E} {pl : va_W} {A : Nat → Prop} (hD : va_D A (((X ++ pl) ++ [x]) ++ rows)) : va_D A ((X ++ [x]) ++ (pl ++ rows)) := by
  rw [List.append_assoc (X ++ pl)] at hD
  have h := va_D.swap hD
  rw [← List.append_assoc X] at h
  have h2 := va_D.swap h
  rw [List.append_assoc (X ++ [x])] at h2
  exact h2
theorem vr_outer (c : ClassId) (N h0 : Nat) : ∀ i : Nat, Jvm.Free.Multi.outerC c N h0 i = arrV c N (fun j => va_rf (if j < i then some (h0 + 1 + j) else none))
  | 0 => by
    show ({ cls := c, slots := Array.replicate N .null, vm := .none } : Cell) = _
    rw [arrV_new]
    refine congrArg (arrV c N) (funext fun j => ?_)
    simp [va_rf]
  | i + 1 => by
    show (Jvm.Free.Multi.outerC c N h0 i).setSlot i (.ref (h0 + 1 + i)) = _
    rw [vr_outer c N h0 i, arrV_store]
    refine congrArg (arrV c N) (funext fun j => ?_)
    by_cases e : j = i
    · subst e
      simp [updV, va_rf]
    · by_cases h : j < i
      · simp [updV, e, h, Nat.lt_succ_of_lt h]
      · simp [updV, e, h, show ¬ j < i + 1 by omega]
section VGM
variable {p : Program} {l : Launch} {e : Env} {R : Room} {s : State} {m : MethodId} {args : Array Value} {below : List Frame} {meth : Method} {c : Code} {H : Heap} {locs : List Loc} {cells slots : Nat} {Q : State → Prop}
variable {cc : ByteArray} {pc : Nat} {ls : Array Slot} {rest : List Value} {D : va_G} {cl : List vw_C} {A : Nat → Prop} {a : Nat} {tys : List (ClassId × FieldType)} {ws : va_W} {H0 : Heap}
theorem va_mna {X : va_W} {L : List Nat} {f : Nat → va_E} {cc : ByteArray} (hexec : p.tables.exec = Jvm.exec) (hb : c.code = cc) {own : String} {index : Nat} {ty : FieldType} {cy : ClassId} (hown : s.vm.findClass own = some m.cls) (hclink : (Cond.classLink own index ("[" ++ (FieldType.array ty).toString)).before args s = true) (hover : va_AOA ty s) (harr : (Cond.arrayClass ty).before args s = true) (hcy : s.vm.findClass (FieldType.array ty).toString = some cy)
    (hK : va_K D cl tys s) (hP : va_P D cl (X ++ va_pl L f) H) (hD : va_D A (X ++ va_pl L f)) (hS : va_S A H0 H locs) (hA : ∀ q, H0.size ≤ q → A q) {n k : Int32} {N' K' : Nat} {z : vp_A} (hn : ¬ n < 0) (hk : ¬ k < 0) (hN : n.toNatClampNeg = N') (hM : k.toNatClampNeg = K')
    (hb1 : N' * 4 ≤ 536870912) (hb2 : K' * componentBytes ty ≤ 536870912) (hb3 : K' ≤ 536870912) (hdf : fits ty (defaultValue ty) = true) (hdd : (defaultValue ty).isDefault = true) (hcells : cells + (1 + N') ≤ R.cells) (hslots : slots + (N' + N' * K') ≤ R.slots) (hz : ∀ c : ClassId, Jvm.Free.Multi.innerC c K' (defaultValue ty) = vp_cell c z) (hdg : decode cc pc = .ok (.multianewarray index 2, 4))
    (kk : ∀ (q : Nat) (r : Nat → Nat) (cA : ClassId) (H1 : Heap), (∀ i j : Nat, i < N' → j < N' → r i = r j → i = j) → (∀ i : Nat, i < N' → r i ∉ L) → va_K D cl (tys ++ [(cA, .array ty)]) s →
      va_P D cl ((X ++ [(q, .inl (cA, N', .inr (.inr (.inr (.inr (fun i => if i < N' then some (r i) else none))))))]) ++ va_pl (L ++ (List.range N').map r) (vr_up f ((List.range N').map r) (.inl (cy, z)))) H1 → va_D A ((X ++ [(q, .inl (cA, N', .inr (.inr (.inr (.inr (fun i => if i < N' then some (r i) else none))))))]) ++ va_pl (L ++ (List.range N').map r) (vr_up f ((List.range N').map r) (.inl (cy, z)))) → va_S A H0 H1 locs →
      W p l e R s m args below meth c H1 locs (cells + 1 + N') (slots + N' + N' * K') Q (F0 m (pc + 4) ls (.ref q :: rest))) : W p l e R s m args below meth c H locs cells slots Q (F0 m pc ls (.int k :: .int n :: rest)) := by
  subst hN
  subst hM
  intro T hT Xs
  obtain ⟨vm₁, cA, comp, -, fA, fC, hO, -, X', step⟩ := Xs.multianewarray2F hexec hown hclink (va_AOA.use hover) harr (g := F0 m pc ls (.int k :: .int n :: rest)) rfl (by rw [hb]; exact hdg) rfl hn hk hb1 hb2 hb3 hdf hdd hcells hslots
  have ec : some cy = some comp := hcy.symm.trans fC
  cases ec
  generalize hF : Jvm.Free.Multi.fill (T.setVm vm₁) cA cy n.toNatClampNeg k.toNatClampNeg (defaultValue ty) n.toNatClampNeg = F at X' step
  have hTh : (T.setVm vm₁).heap = H := hT
  obtain ⟨f1, f2, -, -⟩ := Jvm.Free.Multi.fill_facts (T.setVm vm₁) cA cy n.toNatClampNeg k.toNatClampNeg (defaultValue ty) n.toNatClampNeg
  rw [hF, hTh] at f1 f2
  have hold : ∀ x : Nat, x < H.size → F.heap[x]? = H[x]? := fun x hx => by
    have := Jvm.Free.Multi.fill_old (T.setVm vm₁) cA cy n.toNatClampNeg k.toNatClampNeg (defaultValue ty) (a := x) (by rw [hTh]; exact hx) n.toNatClampNeg
    rw [hF, hTh] at this
    exact this
  have hrow : ∀ j : Nat, j < n.toNatClampNeg → F.heap[H.size + 1 + j]? = some (vp_cell cy z) := fun j hj => by
    have := Jvm.Free.Multi.fill_inner (T.setVm vm₁) cA cy n.toNatClampNeg k.toNatClampNeg (defaultValue ty) n.toNatClampNeg j hj
    rw [hF, hTh, hz] at this
    exact this
  have hout : Jvm.Free.Multi.outerC cA n.toNatClampNeg H.size n.toNatClampNeg = vp_cell cA (n.toNatClampNeg, .inr (.inr (.inr (.inr (fun i => if i < n.toNatClampNeg then some (H.size + 1 + i) else none))))) := by
    rw [vp_cell_q]
    exact vr_outer cA n.toNatClampNeg H.size n.toNatClampNeg
  rw [hout] at f2
  have hlt : ∀ a, a ∈ L → a < H.size := fun a ha => by
    obtain ⟨k9, hk9⟩ := va_pl_get (X := X) (f := f) ha
    exact (hP k9 _ hk9).lt
  have hnl : ∀ i : Nat, i < n.toNatClampNeg → H.size + 1 + i ∉ L := fun i _ h => by
    have := hlt _ h
    omega
  have hnm : ∀ a, a ∈ (List.range n.toNatClampNeg).map (fun i => H.size + 1 + i) → a ∉ L := fun a ha h => by
    obtain ⟨i, -, rfl⟩ := List.mem_map.mp ha
    have := hlt _ h
    omega
  have hP0 : va_P D cl (X ++ va_pl L f) F.heap := hP.kept (fun k9 x hx => hold x.1 ((hP k9 x hx).lt))
  have hP1 : va_P D cl ((X ++ va_pl L f) ++ [(H.size, .inl (cA, n.toNatClampNeg, .inr (.inr (.inr (.inr (fun i => if i < n.toNatClampNeg then some (H.size + 1 + i) else none))))))]) F.heap := hP0.app (fun k9 x hx => by
    have h0 : k9 < 1 := (List.getElem?_eq_some_iff.mp hx).1
    rw [show k9 = 0 by omega] at hx
    cases hx
    exact f2)
  have hP2 : va_P D cl (((X ++ va_pl L f) ++ [(H.size, .inl (cA, n.toNatClampNeg, .inr (.inr (.inr (.inr (fun i => if i < n.toNatClampNeg then some (H.size + 1 + i) else none))))))]) ++ ((List.range n.toNatClampNeg).map (fun i => H.size + 1 + i)).map (fun a => (a, .inl (cy, z)))) F.heap := hP1.app (fun k9 x hx => by
    obtain ⟨a, ha, rfl⟩ := List.mem_map.mp (List.mem_of_getElem? hx)
    obtain ⟨i, hi, rfl⟩ := List.mem_map.mp ha
    exact hrow i (List.mem_range.mp hi))
  have hD2 : va_D A (((X ++ va_pl L f) ++ [(H.size, .inl (cA, n.toNatClampNeg, .inr (.inr (.inr (.inr (fun i => if i < n.toNatClampNeg then some (H.size + 1 + i) else none))))))]) ++ ((List.range n.toNatClampNeg).map (fun i => H.size + 1 + i)).map (fun a => (a, .inl (cy, z)))) := by
    have hD1 := hD.push (e := .inl (cA, n.toNatClampNeg, .inr (.inr (.inr (.inr (fun i => if i < n.toNatClampNeg then some (H.size + 1 + i) else none)))))) hP rfl (hA _ hS.1)
    generalize hW1 : (X ++ va_pl L f) ++ [(H.size, .inl (cA, n.toNatClampNeg, .inr (.inr (.inr (.inr (fun i => if i < n.toNatClampNeg then some (H.size + 1 + i) else none))))))] = W1 at hD1 hP1 ⊢
    have hle : ∀ (k9 : Nat) (x : Nat × va_E), W1[k9]? = some x → x.1 ≤ H.size := fun k9 x hx => by
      rw [← hW1] at hx
      by_cases hl : k9 < (X ++ va_pl L f).length
      · rw [List.getElem?_append_left hl] at hx
        exact Nat.le_of_lt ((hP k9 x hx).lt)
      · rw [List.getElem?_append_right (by omega)] at hx
        have h0 : k9 - (X ++ va_pl L f).length < 1 := (List.getElem?_eq_some_iff.mp hx).1
        rw [show k9 - (X ++ va_pl L f).length = 0 by omega] at hx
        cases hx
        exact Nat.le_refl _
    have hr : ∀ (k9 : Nat) (x : Nat × va_E), (((List.range n.toNatClampNeg).map (fun i => H.size + 1 + i)).map (fun a => ((a, .inl (cy, z)) : Nat × va_E)))[k9]? = some x → x.1 = H.size + 1 + k9 := fun k9 x hx => by
      rw [List.getElem?_map, List.getElem?_map] at hx
      by_cases h9 : k9 < n.toNatClampNeg
      · rw [List.getElem?_range h9] at hx
        cases hx
        rfl
      · have hn0 : (List.range n.toNatClampNeg)[k9]? = none := List.getElem?_eq_none (by rw [List.length_range]; omega)
        rw [hn0] at hx
        cases hx
    refine ⟨fun i j x y hi hj hxy => ?_, fun k9 x hx => ?_⟩
    · by_cases h1 : i < W1.length <;> by_cases h2 : j < W1.length
      · rw [List.getElem?_append_left h1] at hi
        rw [List.getElem?_append_left h2] at hj
        exact hD1.1 i j x y hi hj hxy
      · rw [List.getElem?_append_left h1] at hi
        rw [List.getElem?_append_right (by omega)] at hj
        have := hle _ _ hi
        have := hr _ _ hj
        omega
      · rw [List.getElem?_append_right (by omega)] at hi
        rw [List.getElem?_append_left h2] at hj
        have := hle _ _ hj
        have := hr _ _ hi
        omega
      · rw [List.getElem?_append_right (by omega)] at hi hj
        have := hr _ _ hi
        have := hr _ _ hj
        omega
    · by_cases h1 : k9 < W1.length
      · rw [List.getElem?_append_left h1] at hx
        exact hD1.2 k9 x hx
      · rw [List.getElem?_append_right (by omega)] at hx
        have := hr _ _ hx
        exact hA _ (by have := hS.1; omega)
  have hAr : ArrOfT s cA (.array ty) := fun N9 z9 => by
    obtain ⟨-, k9, hk9, cm9, hkk9⟩ := (hO 0 0 0).1
    exact ⟨(fun q hq => by cases hq), k9, hk9, cm9, hkk9⟩
  have hK2 : va_K D cl (tys ++ [(cA, .array ty)]) s := ⟨hK.1, fun k9 x hx => by
    by_cases hl : k9 < tys.length
    · rw [List.getElem?_append_left hl] at hx
      exact hK.2 k9 x hx
    · rw [List.getElem?_append_right (by omega)] at hx
      have h0 : k9 - tys.length < 1 := (List.getElem?_eq_some_iff.mp hx).1
      rw [show k9 - tys.length = 0 by omega] at hx
      cases hx
      exact ⟨hAr, fA⟩⟩
  obtain ⟨t, a1, b1⟩ := kk H.size (fun i => H.size + 1 + i) cA F.heap (fun i j _ _ h => by have h9 : H.size + 1 + i = H.size + 1 + j := h; omega) hnl hK2 (by rw [← vr_rows hnm]; exact vr_lay hP2) (by rw [← vr_rows hnm]; exact vr_layD hD2) ⟨by rw [f1]; have := hS.1; omega, fun x h1 h2 => (hold x (Nat.lt_of_lt_of_le h1 hS.1)).trans (hS.2.1 x h1 h2), hS.2.2⟩ F rfl X'
  refine ⟨t, step t ?_, b1⟩
  have e : T.heap.size = H.size := by rw [hT]
  rw [e]
  exact a1
end VGM
/-! ===== END ===== -/

/-! ===== BEGIN exceptions that leave a method, and their catching by the caller (launches without stack traces) ===== -/
section VXA
/-! The laws vx_back, vx_callV, vx_callS, vx_callSW, vx_throw0, vx_throwS follow proofs of the library, with one case more: JvmDerived/Free/Laws.lean (Back.of_free), Shelf42/LK1.lean (callV, callS), Shelf/KitTraced.lean (throwNew0V, throwNewS). -/
/-- where a method has thrown q: the class by its name, the cell, what was written, the world -/
def vx_T (XC : String → State → State → Prop) (st : State) (q : Addr) (t : State) (mc ms : Nat) (free : Addr → Prop) : Prop :=
  ∃ (E : String) (ce : Cell) (L : List Loc), XC E st t ∧ t.heap[q]? = some ce ∧ ce.vm = .none ∧ st.vm.findClass E = some ce.cls ∧ st.WarmedH t.vm ∧ st.sameButNew ({ t with vm := st.vm } : State) L mc ms ∧ ∀ z ∈ L, free z.base
def vx_Q (Qc : Array Value → State → Outcome → State → Prop) (XC : String → State → State → Prop) (mc ms : Nat) (free : Addr → Prop) : Array Value → State → Outcome → State → Prop := fun a st o t =>
  (Qc a st o t ∧ ∃ L, FrameEnd st o t L mc ms ∧ ∀ q ∈ L, free q.base) ∨ ∃ q, o = .threw q ∧ vx_T XC st q t mc ms free
/-- a callee that returns or throws -/
def vx_Met (l : Launch) (y : MethodName) (ws : List Cond) (rm : Room) (Pc : Array Value → State → Prop) (Qc : Array Value → State → Outcome → State → Prop) (XC : String → State → State → Prop) (mc ms : Nat) (free : Addr → Prop) : Prop :=
  MetFree l y (headSpec ws rm) Pc (fun _ _ _ _ _ => True) (vx_Q Qc XC mc ms free)
def vx_Post (XC : String → State → State → Prop) (mc ms : Nat) (free : Addr → Prop) : Pt → Array Value → Addr → Pt → Prop := fun A a q B =>
  ∃ (g : JFrame) (mk : MethodId) (t : State) (L : List Loc) (E : String) (ce : Cell), B.U.heap = t.heap ∧ B.U.vm = t.vm ∧ XC E (A.U.calling g mk a) t ∧ t.heap[q]? = some ce ∧ ce.vm = .none ∧ A.U.vm.findClass E = some ce.cls ∧ B.locs = A.locs ++ L ∧ (∀ z ∈ L, free z.base) ∧ B.cells = A.cells + mc ∧ B.slots = A.slots + ms
def vx_Back (l : Launch) (R : Room) (p : Program) (e : Env) (below : List Frame) (s : State) (sargs : Array Value) (y : MethodName) (len W9 : Nat)
    (Pre : Pt → Array Value → Prop) (Post : Pt → Array Value → Option Value → Pt → Prop) (PostX : Pt → Array Value → Addr → Pt → Prop) : Prop :=
  ∀ (m : MethodId) (meth : Method) (c : Code) (A : Pt) (g : JFrame) (ig : Instr) (mk : MethodId) (a : Array Value),
    Stand p l e R s m sargs below meth c A.U A.locs A.cells A.slots → g.method = m → g.locals.size = c.maxLocals → decode c.code g.pc = .ok (ig, len) →
    2 * g.monitorRoom + (g.stack.map fun v => v.category).sum ≤ W9 → A.U.methodNamed? y = some mk → Pre A a →
    (∃ (v : Option Value) (B : Pt), Stand p l e R s m sargs below meth c B.U B.locs B.cells B.slots ∧ Post A a v B ∧
      Steps p.tables e below (doInvoke e (A.U.setTop g) [] mk a).1 (B.U.setTop { g with pc := g.pc + len, stack := v.toList ++ g.stack })) ∨
    (∃ (q : Addr) (B : Pt), Stand p l e R s m sargs below meth c B.U B.locs B.cells B.slots ∧ PostX A a q B ∧
      Steps p.tables e below (doInvoke e (A.U.setTop g) [] mk a).1 ((B.U.setTop g).pushFrame (.throwing q)))
section Payer
variable {l : Launch} {R : Room} {p : Program} {e : Env} {below : List Frame} {s : State} {sargs : Array Value} {y : MethodName} {len W9 : Nat}
theorem vx_back {ws : List Cond} {rm : Room} {Pc : Array Value → State → Prop} {Qc : Array Value → State → Outcome → State → Prop} {XC : String → State → State → Prop} {mc ms : Nat} {free : Addr → Prop} {bytes : ByteArray} {maxL : Nat} {ret : Option FieldType}
    (hM : vx_Met l y ws rm Pc Qc XC mc ms free) (hblind : FrameBlind Pc) (hrc : rm.cells = mc) (hrs : rm.slots = ms)
    (hframes : rm.frames + 1 ≤ R.frames) (hlocals : W9 + (maxL + 11) + rm.locals ≤ R.locals)
    (hws : ∀ w ∈ ws, ∀ a' U, s.WarmedH U.vm → w.before a' U = true) (hcode : Cond.code y bytes maxL ret ∈ ws) (hinit : ∀ a' U, s.WarmedH U.vm → (Cond.initialized y.cls).before a' U = true) :
    vx_Back l R p e below s sargs y len W9 (PreOf R mc ms Pc) (PostOf Qc mc ms free) (vx_Post XC mc ms free) := by
  intro m meth c A g ig mk a X hg hsize hdg hW hn hp
  have h1 : (headSpec ws rm).pre.before a A.U = true := atoms_intro fun w hw => hws w hw _ _ X.warmed
  have h2 : (Cond.code y bytes maxL ret).before a A.U = true := hws _ hcode _ _ X.warmed
  have h3 : (Cond.initialized y.cls).before a A.U = true := hinit _ _ X.warmed
  have h4 : A.cells + (headSpec ws rm).room.cells ≤ R.cells := by rw [show (headSpec ws rm).room.cells = mc from hrc]; exact hp.1
  have h5 : A.slots + (headSpec ws rm).room.slots ≤ R.slots := by rw [show (headSpec ws rm).room.slots = ms from hrs]; exact hp.2.1
  have hPc : Pc a (A.U.calling g mk a) := hblind _ _ _ _ hp.2.2
  obtain ⟨U, Ls, c0, s0⟩ := A
  dsimp only [Pt.U, Pt.locs, Pt.cells, Pt.slots] at h1 h2 h3 h4 h5 X hn hPc ⊢
  obtain ⟨methY, cY, hmY, hcY, -, hlY, -, -, -, -⟩ := Cond.code_spec hn h2
  obtain ⟨kY, hkY, -⟩ := className_of_methodNamed hn
  have hinitY : kY.init = .initialized := Cond.initialized_spec (findClass_of_methodNamed hn) hkY h3
  have h : At U g.method c below := by rw [hg]; exact X.here
  have hlocals9 : W9 + (maxL + 11) + (headSpec ws rm).room.locals ≤ R.locals := hlocals
  have happ : (headSpec ws rm).appliesLoose y e.platform (U.calling g mk a) = true :=
    Spec.appliesLoose_calling (g := g) h hdg hn hkY hinitY
      (X.room_calling (g := g) (R' := (headSpec ws rm).room) hsize hmY hcY hframes (by rw [hlY]; omega) h4 h5) h1
  obtain ⟨mid, hmid⟩ := h.above
  have hfr : (U.setTop g).frames = (.java g :: mid) ++ below := by rw [State.frames_setTop' g h.top, hmid]; rfl
  obtain ⟨o, s₂, hsteps, -, hend, hq⟩ := Steps.callFree hM p X.admits X.cas X.clock (acts := []) hfr happ hPc trivial
  have hq' : vx_Q Qc XC mc ms free a (U.calling g mk a) o s₂ := hq
  rw [State.frames_setTop' g h.top] at hend
  obtain ⟨g₀, hg0⟩ := Option.isSome_iff_exists.mp h.top
  obtain ⟨r, hr⟩ := State.topJava?_eq_some.mp hg0
  have hr' : (({ U with heap := s₂.heap, slotsUsed := s₂.slotsUsed } : State).setVm s₂.vm).frames = .java g₀ :: r := hr
  rcases hq' with ⟨hqc, L, hfe, hL⟩ | ⟨q, rfl, E, ce, L, hx, hce, hcv, hcl, hW₂, hsm, hL⟩
  · obtain ⟨⟨v, rfl⟩, hW₂, e2, q2, q3, q4, q5, q6⟩ := id hfe
    have e3 : s₂ = ({ (U.calling g mk a).setFrames s₂.frames with heap := s₂.heap, slotsUsed := s₂.slotsUsed } : State).setVm s₂.vm := by
      have : s₂ = ({ s₂ with vm := (U.calling g mk a).vm } : State).setVm s₂.vm := rfl
      rw [e2] at this
      exact this
    obtain ⟨c₂, i₂, len₂, hc₂, hd₂, hf₂⟩ := hend
    have hW' : U.WarmedH s₂.vm := hW₂
    have hcc : c₂ = c := by
      have h1 : s₂.code? g.method = U.code? g.method := by
        rw [State.code?_eq, State.code?_eq, hW'.alike.method?]
      exact Option.some.inj (hc₂.symm.trans (h1.trans h.code))
    subst hcc
    have hlen : len₂ = len := by rw [hdg] at hd₂; cases hd₂; rfl
    subst hlen
    have hs₂ : s₂ = (({ U with heap := s₂.heap, slotsUsed := s₂.slotsUsed } : State).setVm s₂.vm).setTop { g with pc := g.pc + len₂, stack := v.toList ++ g.stack } := by
      refine e3.trans ?_
      rw [hf₂, State.calling_eq h.top, State.setFrames_setFrames, State.setTop_of_frames _ hr', hr]
      rfl
    have hsame : U.sameButNew ({ U with heap := s₂.heap, slotsUsed := s₂.slotsUsed } : State) L mc ms := by
      refine ⟨?_, q2, q3, q4, q5, q6⟩
      obtain ⟨t, ht, -⟩ := State.frames_cons hr
      show ({ U with heap := s₂.heap, slotsUsed := s₂.slotsUsed } : State) = { U.setFrames U.frames with heap := s₂.heap, slotsUsed := s₂.slotsUsed }
      rw [State.setFrames_self ht]
    subst hg
    refine Or.inl ⟨v, ⟨(({ U with heap := s₂.heap, slotsUsed := s₂.slotsUsed } : State).setVm s₂.vm), Ls ++ L, c0 + mc, s0 + ms⟩,
      ⟨X.admits, X.cas, X.clock, X.frames, X.room, X.hears, X.method, X.code, (X.here.setHeapUsed s₂.heap s₂.slotsUsed).setVm hW'.alike, X.tail, State.WarmedH.trans X.warmed hW', X.limits, X.bytes, X.same.trans (hsame.setVm s.vm)⟩,
      ⟨g, mk, s₂, L, rfl, rfl, hqc, rfl, hL, rfl, rfl⟩, ?_⟩
    show Steps p.tables e below _ ((({ U with heap := s₂.heap, slotsUsed := s₂.slotsUsed } : State).setVm s₂.vm).setTop { g with pc := g.pc + len₂, stack := v.toList ++ g.stack })
    rw [← hs₂]
    exact hsteps
  · obtain ⟨e2, q2, q3, q4, q5, q6⟩ := id hsm
    have e3 : s₂ = ({ (U.calling g mk a).setFrames s₂.frames with heap := s₂.heap, slotsUsed := s₂.slotsUsed } : State).setVm s₂.vm := by
      have : s₂ = ({ s₂ with vm := (U.calling g mk a).vm } : State).setVm s₂.vm := rfl
      rw [e2] at this
      exact this
    have hf₂ : s₂.frames = .throwing q :: .java g :: U.frames.tail := hend
    have hW' : U.WarmedH s₂.vm := hW₂
    have hs₂ : s₂ = ((({ U with heap := s₂.heap, slotsUsed := s₂.slotsUsed } : State).setVm s₂.vm).setTop g).pushFrame (.throwing q) := by
      refine e3.trans ?_
      rw [hf₂, State.calling_eq h.top, State.setFrames_setFrames, State.pushFrame, State.frames_setTop _ hr', State.setTop_of_frames _ hr', State.setFrames_setFrames, hr]
      rfl
    have hsame : U.sameButNew ({ U with heap := s₂.heap, slotsUsed := s₂.slotsUsed } : State) L mc ms := by
      refine ⟨?_, q2, q3, q4, q5, q6⟩
      obtain ⟨t, ht, -⟩ := State.frames_cons hr
      show ({ U with heap := s₂.heap, slotsUsed := s₂.slotsUsed } : State) = { U.setFrames U.frames with heap := s₂.heap, slotsUsed := s₂.slotsUsed }
      rw [State.setFrames_self ht]
    subst hg
    refine Or.inr ⟨q, ⟨(({ U with heap := s₂.heap, slotsUsed := s₂.slotsUsed } : State).setVm s₂.vm), Ls ++ L, c0 + mc, s0 + ms⟩,
      ⟨X.admits, X.cas, X.clock, X.frames, X.room, X.hears, X.method, X.code, (X.here.setHeapUsed s₂.heap s₂.slotsUsed).setVm hW'.alike, X.tail, State.WarmedH.trans X.warmed hW', X.limits, X.bytes, X.same.trans (hsame.setVm s.vm)⟩,
      ⟨g, mk, s₂, L, E, ce, rfl, rfl, hx, hce, hcv, hcl, rfl, hL, rfl, rfl⟩, ?_⟩
    show Steps p.tables e below _ (((({ U with heap := s₂.heap, slotsUsed := s₂.slotsUsed } : State).setVm s₂.vm).setTop g).pushFrame (.throwing q))
    rw [← hs₂]
    exact hsteps
end Payer
section Calls
variable {p : Program} {l : Launch} {e : Env} {R : Room} {s : State} {m : MethodId} {args : Array Value} {below : List Frame} {meth : Method} {c : Code} {T : State} {locs : List Loc} {cells slots : Nat}
theorem vx_callV (X : Stand p l e R s m args below meth c T locs cells slots) (hexec : p.tables.exec = Jvm.exec) {own C : String} {index : Nat} {y : MethodName} {bytes : ByteArray} {maxL : Nat} {ret : Option FieldType}
    (hown : s.vm.findClass own = some m.cls) (hlink : (Cond.methodLink own index y).before args s = true) (hinst : (Cond.instanceMethod y).before args s = true) (hsel : (Cond.selects C y y).before args s = true)
    (hcode : (Cond.code y bytes maxL ret).before args s = true) (hy : y.cls ≠ "java/lang/invoke/MethodHandle" ∧ y.cls ≠ "java/lang/invoke/VarHandle")
    {W9 : Nat} {Pre : Pt → Array Value → Prop} {Post : Pt → Array Value → Option Value → Pt → Prop} {PostX : Pt → Array Value → Addr → Pt → Prop} (hK : vx_Back l R p e below s args y 3 W9 Pre Post PostX)
    {b : Addr} {cellB : Cell} (hcell : T.heap[b]? = some cellB) (hobj : cellB.vm.isStatics = false) (hcls : s.vm.findClass C = some cellB.cls)
    {g : JFrame} (hg : g.method = m) (hsize : g.locals.size = c.maxLocals) {argsL rest : List Value} (hlen : ∀ sig, parseMethodDescriptor y.desc = some sig → argsL.length = sig.parameters.length)
    (hstack : g.stack = argsL.reverse ++ .ref b :: rest) (hW : 2 * g.monitorRoom + (rest.map fun v => v.category).sum ≤ W9) (hdg : decode c.code g.pc = .ok (.invokevirtual index, 3))
    (hpre : ∀ vm₁, s.WarmedH vm₁ → Pre ⟨T.setVm vm₁, locs, cells, slots⟩ (Value.ref b :: argsL).toArray) :
    (∃ (v : Option Value) (vm₁ : Vm) (B : Pt), s.WarmedH vm₁ ∧ Stand p l e R s m args below meth c B.U B.locs B.cells B.slots ∧ Post ⟨T.setVm vm₁, locs, cells, slots⟩ (Value.ref b :: argsL).toArray v B ∧
      ∀ target, Steps p.tables e below (B.U.setTop { g with pc := g.pc + 3, stack := v.toList ++ rest }) target → Steps p.tables e below (T.setTop g) target) ∨
    (∃ (q : Addr) (vm₁ : Vm) (B : Pt), s.WarmedH vm₁ ∧ Stand p l e R s m args below meth c B.U B.locs B.cells B.slots ∧ PostX ⟨T.setVm vm₁, locs, cells, slots⟩ (Value.ref b :: argsL).toArray q B ∧
      Steps p.tables e below (T.setTop g) ((B.U.setTop { g with stack := rest }).pushFrame (.throwing q))) := by
  obtain ⟨mk, methM, hnamed, hmethM, hstM, habM⟩ := Cond.instanceMethod_spec hinst
  obtain ⟨methM', cM, hmethM', -, -, -, -, -, -, hsigM⟩ := Cond.code_spec hnamed hcode
  cases hmethM.symm.trans hmethM'
  obtain ⟨c2, r2, m2, q1, q2, q3, q4, kP, hkP, hkPi⟩ := Cond.selects_spec hsel
  cases hcls.symm.trans q1
  cases (State.methodFound?_of_named hnamed hy).symm.trans q2
  cases hnamed.symm.trans q3
  have hselP : selectMethod e.platform s.vm cellB.cls mk = .method mk := by rw [Launch.admits_selectMethod X.admits]; exact q4
  obtain ⟨vm₁, X₁, hstep₁⟩ := X.invokevirtual hexec hown hlink hnamed hmethM hstM hkP hkPi hy (a := b) (cell := cellB) hcell
    (fun z h => by rw [h] at hobj; cases hobj) hselP hmethM habM hkP hkPi (g := g) hg (argsL := argsL) (rest := rest) (hlen _ hsigM) hstack hdg
  rcases hK m meth c ⟨T.setVm vm₁, locs, cells, slots⟩ { g with stack := rest } (.invokevirtual index) mk (Value.ref b :: argsL).toArray X₁ hg hsize hdg hW (X₁.named hnamed) (hpre vm₁ X₁.warmed) with ⟨v, B, X', hpost, hsteps⟩ | ⟨q, B, X', hpost, hsteps⟩
  · exact Or.inl ⟨v, vm₁, B, X₁.warmed, X', hpost, fun target h => hstep₁ _ fun acts => by rw [doInvoke_state]; exact hsteps.trans h⟩
  · exact Or.inr ⟨q, vm₁, B, X₁.warmed, X', hpost, hstep₁ _ fun acts => by rw [doInvoke_state]; exact hsteps⟩
theorem vx_callS (X : Stand p l e R s m args below meth c T locs cells slots) (hexec : p.tables.exec = Jvm.exec) {own : String} {index : Nat} {y : MethodName} {bytes : ByteArray} {maxL : Nat} {ret : Option FieldType}
    (hown : s.vm.findClass own = some m.cls) (hlink : (Cond.methodLink own index y).before args s = true) (hstat : (Cond.static y).before args s = true) (hinit : (Cond.initialized y.cls).before args s = true)
    (hcode : (Cond.code y bytes maxL ret).before args s = true) (hy : y.cls ≠ "java/lang/invoke/MethodHandle" ∧ y.cls ≠ "java/lang/invoke/VarHandle")
    {W9 : Nat} {Pre : Pt → Array Value → Prop} {Post : Pt → Array Value → Option Value → Pt → Prop} {PostX : Pt → Array Value → Addr → Pt → Prop} (hK : vx_Back l R p e below s args y 3 W9 Pre Post PostX)
    {g : JFrame} (hg : g.method = m) (hsize : g.locals.size = c.maxLocals) {argsL rest : List Value} (hlen : ∀ sig, parseMethodDescriptor y.desc = some sig → argsL.length = sig.parameters.length)
    (hstack : g.stack = argsL.reverse ++ rest) (hW : 2 * g.monitorRoom + (rest.map fun v => v.category).sum ≤ W9) (hdg : decode c.code g.pc = .ok (.invokestatic index, 3))
    (hpre : ∀ vm₁, s.WarmedH vm₁ → Pre ⟨T.setVm vm₁, locs, cells, slots⟩ argsL.toArray) :
    (∃ (v : Option Value) (vm₁ : Vm) (B : Pt), s.WarmedH vm₁ ∧ Stand p l e R s m args below meth c B.U B.locs B.cells B.slots ∧ Post ⟨T.setVm vm₁, locs, cells, slots⟩ argsL.toArray v B ∧
      ∀ target, Steps p.tables e below (B.U.setTop { g with pc := g.pc + 3, stack := v.toList ++ rest }) target → Steps p.tables e below (T.setTop g) target) ∨
    (∃ (q : Addr) (vm₁ : Vm) (B : Pt), s.WarmedH vm₁ ∧ Stand p l e R s m args below meth c B.U B.locs B.cells B.slots ∧ PostX ⟨T.setVm vm₁, locs, cells, slots⟩ argsL.toArray q B ∧
      Steps p.tables e below (T.setTop g) ((B.U.setTop { g with stack := rest }).pushFrame (.throwing q))) := by
  obtain ⟨mk, hnamed⟩ := Cond.code_named hcode
  obtain ⟨methM, cM, hmethM, -, -, -, -, -, -, hsigM⟩ := Cond.code_spec hnamed hcode
  have hstatic : methM.isStatic = true := Cond.static_spec hnamed hmethM hstat
  obtain ⟨kP, hkP, -⟩ := className_of_methodNamed hnamed
  have hinitP : kP.init = .initialized := Cond.initialized_spec (findClass_of_methodNamed hnamed) hkP hinit
  obtain ⟨vm₁, X₁, hstep₁⟩ := X.invokestatic hexec hown hlink hnamed hmethM hstatic hkP hinitP hy (g := g) hg (argsL := argsL) (rest := rest) (hlen _ hsigM) hstack hdg
  rcases hK m meth c ⟨T.setVm vm₁, locs, cells, slots⟩ { g with stack := rest } (.invokestatic index) mk argsL.toArray X₁ hg hsize hdg hW (X₁.named hnamed) (hpre vm₁ X₁.warmed) with ⟨v, B, X', hpost, hsteps⟩ | ⟨q, B, X', hpost, hsteps⟩
  · exact Or.inl ⟨v, vm₁, B, X₁.warmed, X', hpost, fun target h => hstep₁ _ fun acts => by rw [doInvoke_state]; exact hsteps.trans h⟩
  · exact Or.inr ⟨q, vm₁, B, X₁.warmed, X', hpost, hstep₁ _ fun acts => by rw [doInvoke_state]; exact hsteps⟩
end Calls
theorem vx_cls {s : State} {T : State} {vm₁ : Vm} {E : String} {k : ClassId} (hW : s.WarmedH vm₁) (h : (T.setVm vm₁).vm.findClass E = some k) : s.vm.findClass E = some k := by
  have h1 : vm₁.findClass E = some k := h
  rw [hW.alike.findClass] at h1
  exact h1
/-- the method's frame g, with q thrown over it -/
def vx_W (p : Program) (l : Launch) (e : Env) (R : Room) (s : State) (m : MethodId) (args : Array Value) (below : List Frame) (meth : Method) (c : Code) (H : Heap) (locs : List Loc) (cells slots : Nat) (Q : State → Prop) (g : JFrame) (q : Addr) : Prop :=
  ∀ T : State, T.heap = H → Stand p l e R s m args below meth c T locs cells slots → ∃ t, Steps p.tables e below ((T.setTop g).pushFrame (.throwing q)) t ∧ Q t
def vx_Run (p : Program) (l : Launch) (e : Env) (R : Room) (s : State) (m : MethodId) (args : Array Value) (below : List Frame) (meth : Method) (c : Code) (H : Heap) (locs : List Loc) (cells slots mc ms : Nat) (g : JFrame) (rest : List Value) (Qa : State → Outcome → State → Prop) (XC : String → State → State → Prop) (free : Addr → Prop) : Prop :=
  ∀ T : State, T.heap = H → Stand p l e R s m args below meth c T locs cells slots →
    (∃ (v : Option Value) (st₀ t T' : State) (L : List Loc), st₀.heap = H ∧ Stand p l e R s m args below meth c T' (locs ++ L) (cells + mc) (slots + ms) ∧ (∀ q ∈ L, free q.base) ∧ T'.heap = t.heap ∧ T'.vm = t.vm ∧ Qa st₀ (.returned v) t ∧
      Goes p e below T g T' { g with pc := g.pc + 3, stack := v.toList ++ rest }) ∨
    (∃ (q : Addr) (st₀ t T' : State) (L : List Loc) (E : String) (ce : Cell), st₀.heap = H ∧ Stand p l e R s m args below meth c T' (locs ++ L) (cells + mc) (slots + ms) ∧ (∀ z ∈ L, free z.base) ∧ T'.heap = t.heap ∧ T'.vm = t.vm ∧ XC E st₀ t ∧ t.heap[q]? = some ce ∧ ce.vm = .none ∧ s.vm.findClass E = some ce.cls ∧
      Steps p.tables e below (T.setTop g) ((T'.setTop { g with stack := rest }).pushFrame (.throwing q)))
def vx_X {S : Type} (px : S → Prop) (B : String → S → State → Prop) (A : Nat → Prop) : String → State → State → Prop := fun E st t => ∃ u : S, px u ∧ B E u t ∧ va_F A st t
section Runs
variable {p : Program} {l : Launch} {e : Env} {R : Room} {s : State} {m : MethodId} {args : Array Value} {below : List Frame} {meth : Method} {c : Code} {H : Heap} {locs : List Loc} {cells slots : Nat}
variable {y : MethodName} {bytes cc : ByteArray} {maxL nL mc ms n index : Nat} {ret : Option FieldType} {ws : List Cond} {rm : Room} {Pc : Array Value → State → Prop} {Qc : Array Value → State → Outcome → State → Prop} {XC : String → State → State → Prop} {free : Addr → Prop} {Ts : List Cond} {own C : String} {b : Addr} {As rest : List Value} {g : JFrame}
theorem vx_callBack (cb : CallB R s args own index y bytes maxL ret ws rm mc ms n) (hM : vx_Met l y ws rm Pc Qc XC mc ms free) (hbl : FrameBlind Pc) : vx_Back l R p e below s args y 3 8 (PreOf R mc ms Pc) (PostOf Qc mc ms free) (vx_Post XC mc ms free) := by
  obtain ⟨hrc, hrs, hfr, hlo, hws, hcw, -, hini, -⟩ := cb
  exact vx_back (bytes := bytes) (maxL := maxL) (ret := ret) hM hbl hrc hrs hfr hlo hws hcw (fun a' U hW => word_at hW (Or.inl (by first | rfl | simp [Cond.onTables, Cond.keeps, Cond.steady])) hini)
theorem vx_runV (S : CallFix p m c cc nL s args Ts own) (hM : vx_Met l y ws rm Pc Qc XC mc ms free) (cw : CallW R s args own C index y bytes maxL ret ws rm mc ms n) (hp : PreV s H C b Pc As)
    (hg : g.method = m) (hn : As.length = n) (hsize : g.locals.size = nL) (hstack : g.stack = As.reverse ++ .ref b :: rest) (hW : 2 * g.monitorRoom + (rest.map fun v => v.category).sum ≤ 8) (hdg : decode cc g.pc = .ok (.invokevirtual index, 3)) (hf : cells + mc ≤ R.cells ∧ slots + ms ≤ R.slots) :
    vx_Run p l e R s m args below meth c H locs cells slots mc ms g rest (Qc (Value.ref b :: As).toArray) XC free := by
  have hK : vx_Back l R p e below s args y 3 8 (PreOf R mc ms Pc) (PostOf Qc mc ms free) (vx_Post XC mc ms free) := vx_callBack cw.1 hM hp.1
  obtain ⟨⟨-, -, -, -, -, -, hcode, -, hy, hlen, hl⟩, hin, hse⟩ := cw
  obtain ⟨hx, hb, hml, ho, -⟩ := S
  obtain ⟨-, ⟨cellB, hcB, hoB, hclB⟩, hPc⟩ := hp
  intro T hT X
  rcases vx_callV X hx (C := C) (bytes := bytes) (maxL := maxL) (ret := ret) ho hl hin hse hcode hy hK (by rw [hT]; exact hcB) hoB hclB hg (hsize.trans hml.symm) (argsL := As) (rest := rest) (fun sig h => hn.trans (hlen sig h)) hstack hW (by rw [hb]; exact hdg)
    (fun vm₁ hW₁ => ⟨hf.1, hf.2, hPc (T.setVm vm₁) hT hW₁⟩) with ⟨v, vm₁, ⟨U', l2, c2, s2⟩, hW₁, X', ⟨g', mk, t, L, e1, e2, hq, h1, hL, h2, h3⟩, st⟩ | ⟨q, vm₁, ⟨U', l2, c2, s2⟩, hW₁, X', ⟨g', mk, t, L, E, ce, e1, e2, hq, hce, hcv, hcl, h1, hL, h2, h3⟩, st⟩
  · dsimp only [Pt.U, Pt.locs, Pt.cells, Pt.slots] at X' e1 e2 h1 h2 h3 st
    subst h1; subst h2; subst h3
    exact Or.inl ⟨v, (T.setVm vm₁).calling g' mk (Value.ref b :: As).toArray, t, U', L, hT, X', hL, e1, e2, hq, st⟩
  · dsimp only [Pt.U, Pt.locs, Pt.cells, Pt.slots] at X' e1 e2 h1 h2 h3 st hcl
    subst h1; subst h2; subst h3
    exact Or.inr ⟨q, (T.setVm vm₁).calling g' mk (Value.ref b :: As).toArray, t, U', L, E, ce, hT, X', hL, e1, e2, hq, hce, hcv, vx_cls hW₁ hcl, st⟩
theorem vx_runS (S : CallFix p m c cc nL s args Ts own) (hM : vx_Met l y ws rm Pc Qc XC mc ms free) (cw : CallB R s args own index y bytes maxL ret ws rm mc ms n ∧ (Cond.static y).before args s = true) (hp : PreS s H Pc As)
    (hg : g.method = m) (hn : As.length = n) (hsize : g.locals.size = nL) (hstack : g.stack = As.reverse ++ rest) (hW : 2 * g.monitorRoom + (rest.map fun v => v.category).sum ≤ 8) (hdg : decode cc g.pc = .ok (.invokestatic index, 3)) (hf : cells + mc ≤ R.cells ∧ slots + ms ≤ R.slots) :
    vx_Run p l e R s m args below meth c H locs cells slots mc ms g rest (Qc As.toArray) XC free := by
  have hK : vx_Back l R p e below s args y 3 8 (PreOf R mc ms Pc) (PostOf Qc mc ms free) (vx_Post XC mc ms free) := vx_callBack cw.1 hM hp.1
  obtain ⟨⟨-, -, -, -, -, -, hcode, hini, hy, hlen, hl⟩, hstt⟩ := cw
  obtain ⟨hx, hb, hml, ho, -⟩ := S
  intro T hT X
  rcases vx_callS X hx (bytes := bytes) (maxL := maxL) (ret := ret) ho hl hstt hini hcode hy hK hg (hsize.trans hml.symm) (argsL := As) (rest := rest) (fun sig h => hn.trans (hlen sig h)) hstack hW (by rw [hb]; exact hdg)
    (fun vm₁ hW₁ => ⟨hf.1, hf.2, hp.2 (T.setVm vm₁) hT hW₁⟩) with ⟨v, vm₁, ⟨U', l2, c2, s2⟩, hW₁, X', ⟨g', mk, t, L, e1, e2, hq, h1, hL, h2, h3⟩, st⟩ | ⟨q, vm₁, ⟨U', l2, c2, s2⟩, hW₁, X', ⟨g', mk, t, L, E, ce, e1, e2, hq, hce, hcv, hcl, h1, hL, h2, h3⟩, st⟩
  · dsimp only [Pt.U, Pt.locs, Pt.cells, Pt.slots] at X' e1 e2 h1 h2 h3 st
    subst h1; subst h2; subst h3
    exact Or.inl ⟨v, (T.setVm vm₁).calling g' mk As.toArray, t, U', L, hT, X', hL, e1, e2, hq, st⟩
  · dsimp only [Pt.U, Pt.locs, Pt.cells, Pt.slots] at X' e1 e2 h1 h2 h3 st hcl
    subst h1; subst h2; subst h3
    exact Or.inr ⟨q, (T.setVm vm₁).calling g' mk As.toArray, t, U', L, E, ce, hT, X', hL, e1, e2, hq, hce, hcv, vx_cls hW₁ hcl, st⟩
end Runs
section Rows
variable {p : Program} {l : Launch} {e : Env} {R : Room} {s : State} {m : MethodId} {args : Array Value} {below : List Frame} {meth : Method} {c : Code} {H : Heap} {locs : List Loc} {cells slots : Nat} {Q : State → Prop}
variable {mc ms : Nat} {free : Addr → Prop} {A0 A1 : Nat → Prop} {H0 : Heap} {a : Array Value} {pc : Nat} {ls : Array Slot} {st0 rest : List Value}
theorem vx_keep {st₀ t T' : State} {L : List Loc} (h0 : st₀.heap = H) (e1 : T'.heap = t.heap) (hS : va_S A0 H0 H locs) (hA : ∀ q, q < H.size → A1 q → A0 q) (hf : ∀ q, free q → A0 q) (hL : ∀ q ∈ L, free q.base) (hF : va_F A1 st₀ t) :
    H.size ≤ T'.heap.size ∧ (∀ q : Nat, q < H.size → ¬ A1 q → T'.heap[q]? = H[q]?) ∧ va_S A0 H0 T'.heap (locs ++ L) := by
  obtain ⟨hz, hk⟩ := hF
  rw [h0] at hz hk
  exact ⟨by rw [e1]; exact hz, fun q h1 h2 => by rw [e1]; exact hk q h1 h2,
    ⟨Nat.le_trans hS.1 (by rw [e1]; exact hz), fun q h1 h2 => by rw [e1, hk q (Nat.lt_of_lt_of_le h1 hS.1) (fun z => h2 (hA q (Nat.lt_of_lt_of_le h1 hS.1) z))]; exact hS.2.1 q h1 h2, fun q hq => by
      rcases List.mem_append.mp hq with h | h
      · exact hS.2.2 q h
      · exact hf _ (hL q h)⟩⟩
theorem vx_calli {S SX : Type} {post : Int32 → S → Prop} {px : SX → Prop} {B : S → State → Prop} {BX : String → SX → State → Prop} {AX : Nat → Prop} (hr : vx_Run p l e R s m args below meth c H locs cells slots mc ms (F0 m pc ls st0) rest (va_Qi post B A1 a) (vx_X px BX AX) free) (hS : va_S A0 H0 H locs) (hA : ∀ q, q < H.size → A1 q → A0 q) (hf : ∀ q, free q → A0 q) (hAX : ∀ q, q < H.size → AX q → A0 q)
    (kx : ∀ (E : String) (ce : Cell) (q9 : Addr) (u : SX) (t : State) (H1 : Heap) (locs1 : List Loc), t.heap = H1 → s.vm.Alike t.vm → px u → BX E u t → H.size ≤ H1.size → (∀ q : Nat, q < H.size → ¬ AX q → H1[q]? = H[q]?) → va_S A0 H0 H1 locs1 → H1[q9]? = some ce → ce.vm = .none → s.vm.findClass E = some ce.cls → vx_W p l e R s m args below meth c H1 locs1 (cells + mc) (slots + ms) Q (F0 m pc ls rest) q9)
    (kk : ∀ (r : Int32) (u : S) (t : State) (H1 : Heap) (locs1 : List Loc), t.heap = H1 → s.vm.Alike t.vm → post r u → B u t → H.size ≤ H1.size → (∀ q : Nat, q < H.size → ¬ A1 q → H1[q]? = H[q]?) → va_S A0 H0 H1 locs1 → W p l e R s m args below meth c H1 locs1 (cells + mc) (slots + ms) Q (F0 m (pc + 3) ls (.int r :: rest))) : W p l e R s m args below meth c H locs cells slots Q (F0 m pc ls st0) := by
  intro T hT X
  rcases hr T hT X with ⟨v, st₀, t, T', L, h0, X', hL, e1, e2, ⟨⟨r, u, hv, hp, hb⟩, hF⟩, st⟩ | ⟨q, st₀, t, T', L, E, ce, h0, X', hL, e1, e2, ⟨u, hp, hb, hF⟩, hce, hcv, hcl, st⟩
  · cases hv
    obtain ⟨k1, k2, k3⟩ := vx_keep h0 e1 hS hA hf hL hF
    obtain ⟨t2, a1, b1⟩ := kk r u t T'.heap (locs ++ L) e1.symm (by rw [← e2]; exact X'.warmed.alike) hp hb k1 k2 k3 T' rfl X'
    exact ⟨t2, st t2 a1, b1⟩
  · obtain ⟨k1, k2, k3⟩ := vx_keep h0 e1 hS hAX hf hL hF
    obtain ⟨t2, a1, b1⟩ := kx E ce q u t T'.heap (locs ++ L) e1.symm (by rw [← e2]; exact X'.warmed.alike) hp hb k1 k2 k3 (by rw [e1]; exact hce) hcv hcl T' rfl X'
    exact ⟨t2, st.trans a1, b1⟩
theorem vx_calll {S SX : Type} {post : Int64 → S → Prop} {px : SX → Prop} {B : S → State → Prop} {BX : String → SX → State → Prop} {AX : Nat → Prop} (hr : vx_Run p l e R s m args below meth c H locs cells slots mc ms (F0 m pc ls st0) rest (va_Ql post B A1 a) (vx_X px BX AX) free) (hS : va_S A0 H0 H locs) (hA : ∀ q, q < H.size → A1 q → A0 q) (hf : ∀ q, free q → A0 q) (hAX : ∀ q, q < H.size → AX q → A0 q)
    (kx : ∀ (E : String) (ce : Cell) (q9 : Addr) (u : SX) (t : State) (H1 : Heap) (locs1 : List Loc), t.heap = H1 → s.vm.Alike t.vm → px u → BX E u t → H.size ≤ H1.size → (∀ q : Nat, q < H.size → ¬ AX q → H1[q]? = H[q]?) → va_S A0 H0 H1 locs1 → H1[q9]? = some ce → ce.vm = .none → s.vm.findClass E = some ce.cls → vx_W p l e R s m args below meth c H1 locs1 (cells + mc) (slots + ms) Q (F0 m pc ls rest) q9)
    (kk : ∀ (r : Int64) (u : S) (t : State) (H1 : Heap) (locs1 : List Loc), t.heap = H1 → s.vm.Alike t.vm → post r u → B u t → H.size ≤ H1.size → (∀ q : Nat, q < H.size → ¬ A1 q → H1[q]? = H[q]?) → va_S A0 H0 H1 locs1 → W p l e R s m args below meth c H1 locs1 (cells + mc) (slots + ms) Q (F0 m (pc + 3) ls (.long r :: rest))) : W p l e R s m args below meth c H locs cells slots Q (F0 m pc ls st0) := by
  intro T hT X
  rcases hr T hT X with ⟨v, st₀, t, T', L, h0, X', hL, e1, e2, ⟨⟨r, u, hv, hp, hb⟩, hF⟩, st⟩ | ⟨q, st₀, t, T', L, E, ce, h0, X', hL, e1, e2, ⟨u, hp, hb, hF⟩, hce, hcv, hcl, st⟩
  · cases hv
    obtain ⟨k1, k2, k3⟩ := vx_keep h0 e1 hS hA hf hL hF
    obtain ⟨t2, a1, b1⟩ := kk r u t T'.heap (locs ++ L) e1.symm (by rw [← e2]; exact X'.warmed.alike) hp hb k1 k2 k3 T' rfl X'
    exact ⟨t2, st t2 a1, b1⟩
  · obtain ⟨k1, k2, k3⟩ := vx_keep h0 e1 hS hAX hf hL hF
    obtain ⟨t2, a1, b1⟩ := kx E ce q u t T'.heap (locs ++ L) e1.symm (by rw [← e2]; exact X'.warmed.alike) hp hb k1 k2 k3 (by rw [e1]; exact hce) hcv hcl T' rfl X'
    exact ⟨t2, st.trans a1, b1⟩
theorem vx_callf {S SX : Type} {post : UInt32 → S → Prop} {px : SX → Prop} {B : S → State → Prop} {BX : String → SX → State → Prop} {AX : Nat → Prop} (hr : vx_Run p l e R s m args below meth c H locs cells slots mc ms (F0 m pc ls st0) rest (va_Qf post B A1 a) (vx_X px BX AX) free) (hS : va_S A0 H0 H locs) (hA : ∀ q, q < H.size → A1 q → A0 q) (hf : ∀ q, free q → A0 q) (hAX : ∀ q, q < H.size → AX q → A0 q)
    (kx : ∀ (E : String) (ce : Cell) (q9 : Addr) (u : SX) (t : State) (H1 : Heap) (locs1 : List Loc), t.heap = H1 → s.vm.Alike t.vm → px u → BX E u t → H.size ≤ H1.size → (∀ q : Nat, q < H.size → ¬ AX q → H1[q]? = H[q]?) → va_S A0 H0 H1 locs1 → H1[q9]? = some ce → ce.vm = .none → s.vm.findClass E = some ce.cls → vx_W p l e R s m args below meth c H1 locs1 (cells + mc) (slots + ms) Q (F0 m pc ls rest) q9)
    (kk : ∀ (r : UInt32) (u : S) (t : State) (H1 : Heap) (locs1 : List Loc), t.heap = H1 → s.vm.Alike t.vm → post r u → B u t → H.size ≤ H1.size → (∀ q : Nat, q < H.size → ¬ A1 q → H1[q]? = H[q]?) → va_S A0 H0 H1 locs1 → W p l e R s m args below meth c H1 locs1 (cells + mc) (slots + ms) Q (F0 m (pc + 3) ls (.float r :: rest))) : W p l e R s m args below meth c H locs cells slots Q (F0 m pc ls st0) := by
  intro T hT X
  rcases hr T hT X with ⟨v, st₀, t, T', L, h0, X', hL, e1, e2, ⟨⟨r, u, hv, hp, hb⟩, hF⟩, st⟩ | ⟨q, st₀, t, T', L, E, ce, h0, X', hL, e1, e2, ⟨u, hp, hb, hF⟩, hce, hcv, hcl, st⟩
  · cases hv
    obtain ⟨k1, k2, k3⟩ := vx_keep h0 e1 hS hA hf hL hF
    obtain ⟨t2, a1, b1⟩ := kk r u t T'.heap (locs ++ L) e1.symm (by rw [← e2]; exact X'.warmed.alike) hp hb k1 k2 k3 T' rfl X'
    exact ⟨t2, st t2 a1, b1⟩
  · obtain ⟨k1, k2, k3⟩ := vx_keep h0 e1 hS hAX hf hL hF
    obtain ⟨t2, a1, b1⟩ := kx E ce q u t T'.heap (locs ++ L) e1.symm (by rw [← e2]; exact X'.warmed.alike) hp hb k1 k2 k3 (by rw [e1]; exact hce) hcv hcl T' rfl X'
    exact ⟨t2, st.trans a1, b1⟩
theorem vx_calld {S SX : Type} {post : UInt64 → S → Prop} {px : SX → Prop} {B : S → State → Prop} {BX : String → SX → State → Prop} {AX : Nat → Prop} (hr : vx_Run p l e R s m args below meth c H locs cells slots mc ms (F0 m pc ls st0) rest (va_Qd post B A1 a) (vx_X px BX AX) free) (hS : va_S A0 H0 H locs) (hA : ∀ q, q < H.size → A1 q → A0 q) (hf : ∀ q, free q → A0 q) (hAX : ∀ q, q < H.size → AX q → A0 q)
    (kx : ∀ (E : String) (ce : Cell) (q9 : Addr) (u : SX) (t : State) (H1 : Heap) (locs1 : List Loc), t.heap = H1 → s.vm.Alike t.vm → px u → BX E u t → H.size ≤ H1.size → (∀ q : Nat, q < H.size → ¬ AX q → H1[q]? = H[q]?) → va_S A0 H0 H1 locs1 → H1[q9]? = some ce → ce.vm = .none → s.vm.findClass E = some ce.cls → vx_W p l e R s m args below meth c H1 locs1 (cells + mc) (slots + ms) Q (F0 m pc ls rest) q9)
    (kk : ∀ (r : UInt64) (u : S) (t : State) (H1 : Heap) (locs1 : List Loc), t.heap = H1 → s.vm.Alike t.vm → post r u → B u t → H.size ≤ H1.size → (∀ q : Nat, q < H.size → ¬ A1 q → H1[q]? = H[q]?) → va_S A0 H0 H1 locs1 → W p l e R s m args below meth c H1 locs1 (cells + mc) (slots + ms) Q (F0 m (pc + 3) ls (.double r :: rest))) : W p l e R s m args below meth c H locs cells slots Q (F0 m pc ls st0) := by
  intro T hT X
  rcases hr T hT X with ⟨v, st₀, t, T', L, h0, X', hL, e1, e2, ⟨⟨r, u, hv, hp, hb⟩, hF⟩, st⟩ | ⟨q, st₀, t, T', L, E, ce, h0, X', hL, e1, e2, ⟨u, hp, hb, hF⟩, hce, hcv, hcl, st⟩
  · cases hv
    obtain ⟨k1, k2, k3⟩ := vx_keep h0 e1 hS hA hf hL hF
    obtain ⟨t2, a1, b1⟩ := kk r u t T'.heap (locs ++ L) e1.symm (by rw [← e2]; exact X'.warmed.alike) hp hb k1 k2 k3 T' rfl X'
    exact ⟨t2, st t2 a1, b1⟩
  · obtain ⟨k1, k2, k3⟩ := vx_keep h0 e1 hS hAX hf hL hF
    obtain ⟨t2, a1, b1⟩ := kx E ce q u t T'.heap (locs ++ L) e1.symm (by rw [← e2]; exact X'.warmed.alike) hp hb k1 k2 k3 (by rw [e1]; exact hce) hcv hcl T' rfl X'
    exact ⟨t2, st.trans a1, b1⟩
theorem vx_callv {S SX : Type} {post : S → Prop} {px : SX → Prop} {B : S → State → Prop} {BX : String → SX → State → Prop} {AX : Nat → Prop} (hr : vx_Run p l e R s m args below meth c H locs cells slots mc ms (F0 m pc ls st0) rest (va_Qv post B A1 a) (vx_X px BX AX) free) (hS : va_S A0 H0 H locs) (hA : ∀ q, q < H.size → A1 q → A0 q) (hf : ∀ q, free q → A0 q) (hAX : ∀ q, q < H.size → AX q → A0 q)
    (kx : ∀ (E : String) (ce : Cell) (q9 : Addr) (u : SX) (t : State) (H1 : Heap) (locs1 : List Loc), t.heap = H1 → s.vm.Alike t.vm → px u → BX E u t → H.size ≤ H1.size → (∀ q : Nat, q < H.size → ¬ AX q → H1[q]? = H[q]?) → va_S A0 H0 H1 locs1 → H1[q9]? = some ce → ce.vm = .none → s.vm.findClass E = some ce.cls → vx_W p l e R s m args below meth c H1 locs1 (cells + mc) (slots + ms) Q (F0 m pc ls rest) q9)
    (kk : ∀ (u : S) (t : State) (H1 : Heap) (locs1 : List Loc), t.heap = H1 → s.vm.Alike t.vm → post u → B u t → H.size ≤ H1.size → (∀ q : Nat, q < H.size → ¬ A1 q → H1[q]? = H[q]?) → va_S A0 H0 H1 locs1 → W p l e R s m args below meth c H1 locs1 (cells + mc) (slots + ms) Q (F0 m (pc + 3) ls (rest))) : W p l e R s m args below meth c H locs cells slots Q (F0 m pc ls st0) := by
  intro T hT X
  rcases hr T hT X with ⟨v, st₀, t, T', L, h0, X', hL, e1, e2, ⟨⟨u, hv, hp, hb⟩, hF⟩, st⟩ | ⟨q, st₀, t, T', L, E, ce, h0, X', hL, e1, e2, ⟨u, hp, hb, hF⟩, hce, hcv, hcl, st⟩
  · cases hv
    obtain ⟨k1, k2, k3⟩ := vx_keep h0 e1 hS hA hf hL hF
    obtain ⟨t2, a1, b1⟩ := kk u t T'.heap (locs ++ L) e1.symm (by rw [← e2]; exact X'.warmed.alike) hp hb k1 k2 k3 T' rfl X'
    exact ⟨t2, st t2 a1, b1⟩
  · obtain ⟨k1, k2, k3⟩ := vx_keep h0 e1 hS hAX hf hL hF
    obtain ⟨t2, a1, b1⟩ := kx E ce q u t T'.heap (locs ++ L) e1.symm (by rw [← e2]; exact X'.warmed.alike) hp hb k1 k2 k3 (by rw [e1]; exact hce) hcv hcl T' rfl X'
    exact ⟨t2, st.trans a1, b1⟩
/-- caught by the row x of this method's table; the rows ahead don't take it -/
theorem vx_catch {own name : String} {E : String} {ce : Cell} {q : Addr} (hown : s.vm.findClass own = some m.cls) (pre : List ExceptionTableEntry) (x : ExceptionTableEntry) (suf : List ExceptionTableEntry) (hsplit : c.exceptionTable.toList = pre ++ x :: suf)
    (hpass : ∀ z ∈ pre, covers z pc = false ∨ (z.catchType ≠ 0 ∧ ∃ nm : String, (Cond.classLink own z.catchType nm).before args s = true ∧ va_Nc E nm s)) (hx : covers x pc = true) (h0 : x.catchType ≠ 0)
    (hlink : (Cond.classLink own x.catchType name).before args s = true) (hcast : (Cond.castable E name).before args s = true) (hcell : H[q]? = some ce) (hv : ce.vm = .none) (hcl : s.vm.findClass E = some ce.cls)
    (kk : W p l e R s m args below meth c H locs cells slots Q (F0 m x.handlerPc ls [.ref q])) : vx_W p l e R s m args below meth c H locs cells slots Q (F0 m pc ls rest) q := by
  intro T hT X
  have hpl : e.platform.magicAccessors = ({} : Platform).magicAccessors := by rw [X.admits.platform]
  obtain ⟨c3, c4, hc3, hc4, hasg⟩ := Cond.castable_spec hcast
  cases Option.some.inj (hc3.symm.trans hcl)
  obtain ⟨c5, hc5, hcl5⟩ := Cond.classLink_spec hown hlink e.platform hpl
  cases Option.some.inj (hc4.symm.trans hc5)
  obtain ⟨vm', X', st⟩ := X.thenCaughtThrough q (g := F0 m pc ls rest) rfl (Steps.refl _) (by rw [hT]; exact hcell) (by rw [hv]; rfl) (by obtain ⟨k9, h9, -⟩ := Vm.findClass_spec hcl; exact ⟨k9, h9⟩) pre x suf hsplit
    (fun z hz => by
      rcases hpass z hz with h | ⟨hz0, nm, hl1, hn1⟩
      · exact Or.inl h
      · obtain ⟨c6, hc6, hcl6⟩ := Cond.classLink_spec hown hl1 e.platform hpl
        obtain ⟨a8, b8, h1, h2, h3⟩ := hn1
        cases Option.some.inj (h1.symm.trans hcl)
        cases Option.some.inj (h2.symm.trans hc6)
        exact Or.inr ⟨hz0, _, hcl6, h3⟩) hx (Or.inr ⟨h0, c4, hcl5, hasg⟩)
  obtain ⟨t, a1, b1⟩ := kk (T.setVm vm') hT X'
  exact ⟨t, st.trans a1, b1⟩
end Rows
section Ends
variable {p : Program} {l : Launch} {e : Env} {R : Room} {s : State} {m : MethodId} {args : Array Value} {below : List Frame} {meth : Method} {c : Code} {H : Heap} {locs : List Loc} {cells slots : Nat} {Q : State → Prop}
variable {mc ms : Nat} {free : Addr → Prop} {A0 A1 : Nat → Prop} {H0 : Heap} {a : Array Value} {ls : Array Slot} {st0 rest : List Value}
variable {Qc : Array Value → State → Outcome → State → Prop} {XC : String → State → State → Prop}
/-- what a body that may throw owes at its end -/
def vx_MQ (below : List Frame) (Qc : Array Value → State → Outcome → State → Prop) (XC : String → State → State → Prop) (a : Array Value) (s : State) (mc ms : Nat) (free : Addr → Prop) : State → Prop := fun t =>
  ∃ o, t.status = .running ∧ Ended t below o ∧ vx_Q Qc XC mc ms free a s o t
theorem vx_ret {g : JFrame} {mc ms : Nat} (k : W p l e R s m args below meth c H locs cells slots (MQ below Qc args s mc ms free) g) : W p l e R s m args below meth c H locs cells slots (vx_MQ below Qc XC args s mc ms free) g := by
  intro T hT X
  obtain ⟨t, a1, o, b1, b2, b3, b4⟩ := k T hT X
  exact ⟨t, a1, o, b1, b2, Or.inl ⟨b3, b4⟩⟩
/-- not caught here: it goes on to the caller -/
theorem vx_widen {g : JFrame} {q : Addr} {k n : Nat} (h1 : cells ≤ k) (h2 : slots ≤ n) (kk : vx_W p l e R s m args below meth c H locs k n Q g q) : vx_W p l e R s m args below meth c H locs cells slots Q g q := fun T hT X => kk T hT (stand_widen X h1 h2)
theorem vx_out {pc : Nat} {E : String} {ce : Cell} {q : Addr} {mc ms : Nat} (hout : ∀ x ∈ c.exceptionTable.toList, covers x pc = false) (hlocks : meth.locks = false) (hcell : H[q]? = some ce) (hv : ce.vm = .none) (hcl : s.vm.findClass E = some ce.cls)
    (hx : ∀ t : State, t.heap = H → s.vm.Alike t.vm → XC E s t) (hf : ∀ z ∈ locs, free z.base) (hc : cells ≤ mc) (hs : slots ≤ ms) :
    vx_W p l e R s m args below meth c H locs cells slots (vx_MQ below Qc XC args s mc ms free) (F0 m pc ls rest) q := by
  intro T hT X
  obtain ⟨st1, hrun, hend, hW, hsm⟩ := X.leaveThrown q (g := F0 m pc ls rest) rfl rfl rfl hout hlocks
  have hcell9 : (T.setFrames (.throwing q :: below)).heap[q]? = some ce := by
    show T.heap[q]? = some ce
    rw [hT]; exact hcell
  exact ⟨_, st1, .threw q, hrun, hend, Or.inr ⟨q, rfl, E, ce, locs, hx _ hT hW.alike, hcell9, hv, hcl, hW, hsm.mono hc hs, hf⟩⟩
theorem vx_frame {U : State} {k n : Nat} (h : s.sameButNew ({ U with vm := s.vm } : State) locs k n) : s.heap.size ≤ U.heap.size ∧ ∀ q : Nat, q < s.heap.size → (∀ z ∈ locs, z.base ≠ q) → U.heap[q]? = s.heap[q]? := by
  obtain ⟨-, h2, -, -, -, h6⟩ := h
  refine ⟨h2, fun q hq hz => ?_⟩
  obtain ⟨c9, e1, e2, e3, e4⟩ := h6 q _ (Array.getElem?_eq_getElem hq)
  have hs : c9.slots = (s.heap[q]).slots := Array.ext_getElem? fun i => e4 i fun hm => hz _ hm rfl
  have h9 : c9 = s.heap[q] := by
    rw [hs] at e2
    exact e2
  have e5 : U.heap[q]? = some c9 := e1
  rw [e5, h9, Array.getElem?_eq_getElem hq]
/-- the words of a throw but the four that speak of the heap -/
def vx_no (w : Cond) : Bool := decide (w ≠ .isRef (.static Bundle.tN "UNASSIGNED_STACK" Bundle.steD)) && decide (w ≠ .isRef (.static Bundle.tN "SUPPRESSED_SENTINEL" Bundle.listD)) && decide (w ≠ .laysStatic Bundle.tN "UNASSIGNED_STACK" Bundle.steD) && decide (w ≠ .laysStatic Bundle.tN "SUPPRESSED_SENTINEL" Bundle.listD)
def vx_at0 (own : String) (ic : Nat) (X : String) (names : List String) : List Cond := (Bundle.ownAtoms0 own ic X names).filter vx_no
def vx_atS (own : String) (ic : Nat) (X : String) (names : List String) : List Cond := (Bundle.ownAtoms own ic X names).filter vx_no
/-- a word that the tables alone decide, or a good one -/
def vx_ot (w : Cond) : Bool := w.onTables || goodWord w
theorem vx_ot_at {args a' : Array Value} {s U : State} {w : Cond} (hW : s.WarmedH U.vm) (hvm : s.vm = U.vm) (hg : vx_ot w = true) (h : w.before args s = true) : w.before a' U = true := by
  simp only [vx_ot, Bool.or_eq_true] at hg
  rcases hg with hg | hg
  · exact va_tabs hg hvm h
  · exact word_at hW (good_of_word hg) h
/-- a list's words: the good ones out of the method's own list, the others by premises of their own -/
theorem vx_hat {args : Array Value} {s : State} {L B : List Cond} (h1 : ∀ w ∈ L.filter goodWord, w.before args s = true) (h2 : ∀ w ∈ L.filter (fun w => !goodWord w), w ∈ B) (h3 : ∀ w ∈ B, w.before args s = true) : ∀ w ∈ L, w.before args s = true := by
  intro w hw
  by_cases g : goodWord w = true
  · exact h1 w (List.mem_filter.mpr ⟨hw, g⟩)
  · refine h3 w (h2 w (List.mem_filter.mpr ⟨hw, ?_⟩))
    show (!goodWord w) = true
    cases hgw : goodWord w
    · rfl
    · exact absurd hgw g
theorem vx_c {args : Array Value} {s : State} {w : Cond} {B : List Cond} (h : w.before args s = true) (t : ∀ w ∈ B, w.before args s = true) : ∀ w' ∈ w :: B, w'.before args s = true := fun w' h' => (List.mem_cons.mp h').elim (fun e => by rw [e]; exact h) (t w')
theorem vx_n {args : Array Value} {s : State} : ∀ w ∈ ([] : List Cond), w.before args s = true := fun _ h => nomatch h
theorem vx_own {args : Array Value} {s : State} {L : List Cond} (h1 : ∀ w ∈ L.filter vx_no, w.before args s = true)
    (hU : (Cond.isRef (.static Bundle.tN "UNASSIGNED_STACK" Bundle.steD)).before args s = true) (hN : (Cond.isRef (.static Bundle.tN "SUPPRESSED_SENTINEL" Bundle.listD)).before args s = true)
    (lU : (Cond.laysStatic Bundle.tN "UNASSIGNED_STACK" Bundle.steD).before args s = true) (lN : (Cond.laysStatic Bundle.tN "SUPPRESSED_SENTINEL" Bundle.listD).before args s = true) : ∀ w ∈ L, w.before args s = true := by
  intro w hw
  by_cases e1 : w = .isRef (.static Bundle.tN "UNASSIGNED_STACK" Bundle.steD)
  · rw [e1]; exact hU
  · by_cases e2 : w = .isRef (.static Bundle.tN "SUPPRESSED_SENTINEL" Bundle.listD)
    · rw [e2]; exact hN
    · by_cases e3 : w = .laysStatic Bundle.tN "UNASSIGNED_STACK" Bundle.steD
      · rw [e3]; exact lU
      · by_cases e4 : w = .laysStatic Bundle.tN "SUPPRESSED_SENTINEL" Bundle.listD
        · rw [e4]; exact lN
        · exact h1 w (List.mem_filter.mpr ⟨hw, by unfold vx_no; rw [decide_eq_true e1, decide_eq_true e2, decide_eq_true e3, decide_eq_true e4]; rfl⟩)
/-- where a static field lies, its class's statics cell in H -/
def vx_L (C n d : String) (A : Nat → Prop) (U : State) (H : Heap) : Prop := ∃ (c : ClassId) (k : Class) (i : Nat) (f : Field) (a : Nat) (cell : Cell), U.vm.findClass C = some c ∧ U.fieldFound? C n d = some (c, k, i, f) ∧ f.isStatic = true ∧ k.statics = some a ∧ H[a]? = some cell ∧ cell.vm.isStatics = true ∧ cell.cls = c ∧ f.slot < cell.slots.size ∧ k.staticTypes[f.slot]? = some f.type ∧ ¬ A a
theorem vx_L.moved {C n d : String} {A : Nat → Prop} {u U : State} {H : Heap} (hvm : u.vm.Alike U.vm) (h : vx_L C n d A u H) : vx_L C n d A U H := by
  obtain ⟨c, k, i, f, a, cell, h1, h2, h3, h4, h5, h6, h7, h8, h9, h10⟩ := h
  obtain ⟨k', hi', he⟩ := State.fieldFound?_setVm hvm h2
  exact ⟨c, k', i, f, a, cell, by rw [hvm.findClass]; exact h1, hi', h3, by rw [he]; exact h4, h5, h6, h7, h8, by rw [he]; exact h9, h10⟩
theorem vx_L.kept {C n d : String} {A : Nat → Prop} {U : State} {H H1 : Heap} (h : vx_L C n d A U H) (hq : ∀ a : Nat, a < H.size → ¬ A a → H1[a]? = H[a]?) : vx_L C n d A U H1 := by
  obtain ⟨c, k, i, f, a, cell, h1, h2, h3, h4, h5, h6, h7, h8, h9, h10⟩ := h
  exact ⟨c, k, i, f, a, cell, h1, h2, h3, h4, by rw [hq a (Array.getElem?_eq_some_iff.mp h5).1 h10]; exact h5, h6, h7, h8, h9, h10⟩
theorem vx_L.narrow {C n d : String} {A B : Nat → Prop} {U : State} {H : Heap} (h : vx_L C n d A U H) (hAB : ∀ q, B q → A q) : vx_L C n d B U H := by
  obtain ⟨c, k, i, f, a, cell, h1, h2, h3, h4, h5, h6, h7, h8, h9, h10⟩ := h
  exact ⟨c, k, i, f, a, cell, h1, h2, h3, h4, h5, h6, h7, h8, h9, fun z => h10 (hAB _ z)⟩
theorem vx_L.word {C n d : String} {A : Nat → Prop} {s : State} {args : Array Value} (h : vx_L C n d A s s.heap) : (Cond.laysStatic C n d).before args s = true := by
  obtain ⟨c, k, i, f, a, cell, h1, h2, h3, h4, h5, h6, h7, h8, h9, -⟩ := h
  show (Cond.laysStatic C n d).holds args s none s [] = true
  exact Cond.laysStatic_of h1 h2 h3 h4 h5 h6 h7 h8 h9
/-- .. and what it holds: null or some reference -/
def vx_Zq (C n d : String) (A : Nat → Prop) (U : State) (H : Heap) : Prop := va_Zq C n d A U H ∧ vx_L C n d A U H
theorem vx_Zq.moved {C n d : String} {A : Nat → Prop} {u U : State} {H : Heap} (hvm : u.vm.Alike U.vm) (h : vx_Zq C n d A u H) : vx_Zq C n d A U H := ⟨va_Zq.moved hvm h.1, vx_L.moved hvm h.2⟩
theorem vx_Zq.kept {C n d : String} {A : Nat → Prop} {U : State} {H H1 : Heap} (h : vx_Zq C n d A U H) (hq : ∀ a : Nat, a < H.size → ¬ A a → H1[a]? = H[a]?) : vx_Zq C n d A U H1 := ⟨va_Zq.kept h.1 hq, vx_L.kept h.2 hq⟩
theorem vx_Zq.narrow {C n d : String} {A B : Nat → Prop} {U : State} {H : Heap} (h : vx_Zq C n d A U H) (hAB : ∀ q, B q → A q) : vx_Zq C n d B U H := ⟨va_Zq.narrow h.1 hAB, vx_L.narrow h.2 hAB⟩
theorem vx_Zqof {args : Array Value} {s : State} {C n d : String} {A : Nat → Prop} (hl : (Cond.laysStatic C n d).before args s = true) (hini : (Cond.initialized C).before args s = true) (h : (Cond.isRef (.static C n d)).before args s = true) (hA : ∀ a : Nat, a < s.heap.size → ¬ A a) : vx_Zq C n d A s s.heap := by
  refine ⟨va_Zqof hl hini h hA, ?_⟩
  obtain ⟨c, k, i, f, a, cell, h1, h2, h3, h4, h5, h6, h7, h8, h9⟩ := Cond.laysStatic_spec hl
  exact ⟨c, k, i, f, a, cell, h1, h2, h3, h4, h5, h6, h7, h8, h9, hA a (Array.getElem?_eq_some_iff.mp h5).1⟩
theorem vx_isRef {C n d : String} {v : Value} {A : Nat → Prop} {s : State} {args : Array Value} (h : va_Z C n d v A s s.heap) (hv : v.isRef = true) : (Cond.isRef (.static C n d)).before args s = true := by
  obtain ⟨cf, kf, fi, f, a, cell, h1, h2, h3, h4, h5, h6, h7, -⟩ := h
  have he : (Term.static C n d).eval args s none [] s = some v := by
    simp [Term.eval, State.fieldNamed?, h1, h2, h4, h5, h6, h7]
  simp only [Cond.before, Cond.holds, Cond.value, he]
  cases v <;> simp_all [Value.isRef]
theorem vx_isRefq {C n d : String} {A : Nat → Prop} {s : State} {args : Array Value} (h : va_Zq C n d A s s.heap) : (Cond.isRef (.static C n d)).before args s = true := by
  rcases h with h | ⟨t, h⟩
  · exact vx_isRef h rfl
  · exact vx_isRef h rfl
/-- the same frame, seen from here: as if the method were called anew in this heap -/
theorem vx_rebase {T : State} (X : Stand p l e R s m args below meth c T locs cells slots) {R' : Room} (hf : R'.frames ≤ R.frames) (hl : R'.locals ≤ R.locals) (hc : cells + R'.cells ≤ R.cells) (hs : slots + R'.slots ≤ R.slots) :
    Stand p l e R' ((T.setVm s.vm).setFrames (.invoking m args :: below)) m args below meth c T [] 0 0 := by
  have htop : (T.setVm s.vm).topJava?.isSome := X.here.top
  have hF : ((T.setVm s.vm).setFrames (.invoking m args :: below)).frames = .invoking m args :: below := State.frames_setFrames _ (State.cur_lt_of_top htop)
  obtain ⟨g₀, hg0⟩ := Option.isSome_iff_exists.mp htop
  obtain ⟨r, hr⟩ := State.topJava?_eq_some.mp hg0
  have hl9 : e.platform.stackLimits (T.setVm s.vm).me = e.platform.stackLimits s.me := X.limits
  have hb9 : (T.setVm s.vm).me.stackBytes = s.me.stackBytes := X.bytes
  refine ⟨X.admits, X.cas, X.clock, hF, ?_, X.hears, X.method, X.code, X.here, X.tail, X.warmed, ?_, ?_, ?_⟩
  · have h := X.room
    have hU : ((T.setVm s.vm).setFrames (.invoking m args :: below)).localsInUse = s.localsInUse := by
      rw [State.localsInUse_invoking hF (meth := meth) (c := c) X.method X.code, State.localsInUse_invoking X.frames X.method X.code]
    simp only [State.hasRoom, Bool.and_eq_true, decide_eq_true_eq] at h ⊢
    obtain ⟨⟨⟨⟨h1, h2, h3, h4, h5, h6⟩, h7⟩, h8⟩, h9⟩ := h
    rw [X.frames, List.length_cons] at h2 h3
    have q1 := X.heapSize
    have q2 := X.used
    simp only [hF, hU, List.length_cons, State.stackLimits_setFrames, State.stackBytes_setFrames, hl9, hb9]
    refine ⟨⟨⟨⟨by omega, by omega, by omega, by omega, by omega, h6⟩, ?_⟩, ?_⟩, X.book⟩
    · show T.heap.size + R'.cells ≤ e.platform.maxCells
      omega
    · show T.slotsUsed + R'.slots ≤ e.platform.maxSlots
      omega
  · rw [State.stackLimits_setFrames]; rfl
  · rw [State.stackBytes_setFrames]; rfl
  · refine ⟨?_, Nat.le_refl _, Nat.le_refl _, ?_, ?_, fun a c9 h9 => ⟨c9, h9, rfl, rfl, fun _ _ => rfl⟩⟩
    · obtain ⟨t, ht, -⟩ := State.frames_cons hr
      show T.setVm s.vm = { ((T.setVm s.vm).setFrames (.invoking m args :: below)).setFrames (T.setVm s.vm).frames with heap := T.heap, slotsUsed := T.slotsUsed }
      rw [State.setFrames_setFrames, State.setFrames_self ht]
      rfl
    · show T.slotsUsed = T.slotsUsed + ((T.heap.toList.drop T.heap.size).map (·.slots.size)).sum
      rw [List.drop_eq_nil_of_le (Nat.le_of_eq Array.length_toList)]
      rfl
    · show ((T.heap.toList.drop T.heap.size).map (·.slots.size)).sum ≤ 0
      rw [List.drop_eq_nil_of_le (Nat.le_of_eq Array.length_toList)]
      exact Nat.le_refl _
/-- 'throw new E()': new; dup; invokespecial; athrow -/
theorem vx_throw0 {cc : ByteArray} {pc : Nat} (hexec : p.tables.exec = Jvm.exec) (hb : c.code = cc) (hl : l.stackTraces = false) {own cls : String} {names : List String} {ik ic mc ms : Nat} {A : Nat → Prop}
    (hown : s.vm.findClass own = some m.cls) (hcls : Bundle.fit cls = true) (hnames : ∀ n ∈ names, Bundle.fit n = true)
    (hk : (Cond.classLink own ik cls).before args s = true) (hini : (Cond.initialized cls).before args s = true) (hat : ∀ w ∈ vx_at0 own ic cls names, w.before args s = true)
    (hgood : ∀ w ∈ Cond.classLink own ik cls :: Cond.initialized cls :: vx_at0 own ic cls names, vx_ot w = true)
    (hU : vx_Zq Bundle.tN "UNASSIGNED_STACK" Bundle.steD A s s.heap) (hN : vx_Zq Bundle.tN "SUPPRESSED_SENTINEL" Bundle.listD A s s.heap) (hS : va_S A s.heap H locs) (hsize : ls.size = c.maxLocals)
    (d0 : decode cc pc = .ok (.new ik, 3)) (d3 : decode cc (pc + 3) = .ok (.dup, 1)) (d4 : decode cc (pc + 4) = .ok (.invokespecial ic, 3)) (d7 : decode cc (pc + 7) = .ok (.athrow, 1))
    (hout : ∀ x ∈ c.exceptionTable.toList, covers x (pc + 7) = false)
    (hRframes : names.length + 3 < R.frames) (hRlocals : (rest.map fun v => v.category).sum + (13 * (names.length + 1) + 42) ≤ R.locals) (hRcells : cells + 1 ≤ R.cells) (hRslots : slots + 6 ≤ R.slots) (hlocks : meth.locks = false)
    (hx : ∀ t : State, s.vm.Alike t.vm → H.size ≤ t.heap.size → (∀ q : Nat, q < H.size → t.heap[q]? = H[q]?) → XC cls s t)
    (hf : ∀ z ∈ locs, free z.base) (hc : cells + 1 ≤ mc) (hs : slots + 6 ≤ ms) :
    W p l e R s m args below meth c H locs cells slots (vx_MQ below Qc XC args s mc ms free) (F0 m pc ls rest) := by
  intro T hT X
  have htr : e.platform.stackTraces = false := (show e.platform.stackTraces = l.stackTraces by rw [X.admits.platform]).trans hl
  have Y := vx_rebase X (R' := { frames := R.frames, locals := R.locals, cells := 1, slots := 6 }) (Nat.le_refl _) (Nat.le_refl _) hRcells hRslots
  obtain ⟨s', hA⟩ : ∃ z, z = (T.setVm s.vm).setFrames (.invoking m args :: below) := ⟨_, rfl⟩
  rw [← hA] at Y
  have hvm : s'.vm = s.vm := by rw [hA]; rfl
  have hhp : s'.heap = H := by rw [hA]; exact hT
  have hW0 : s.WarmedH s'.vm := by rw [hvm]; exact State.WarmedH.refl s
  have hat' : ∀ w ∈ vx_at0 own ic cls names, w.before args s' = true := fun w hw => vx_ot_at hW0 hvm.symm (hgood w (List.mem_cons_of_mem _ (List.mem_cons_of_mem _ hw))) (hat w hw)
  have hk' : (Cond.classLink own ik cls).before args s' = true := vx_ot_at hW0 hvm.symm (hgood _ List.mem_cons_self) hk
  have hini' : (Cond.initialized cls).before args s' = true := vx_ot_at hW0 hvm.symm (hgood _ (List.mem_cons_of_mem _ List.mem_cons_self)) hini
  have hU' : vx_Zq Bundle.tN "UNASSIGNED_STACK" Bundle.steD A s' s'.heap := by rw [hhp]; exact vx_Zq.moved hW0.alike (hU.kept hS.2.1)
  have hN' : vx_Zq Bundle.tN "SUPPRESSED_SENTINEL" Bundle.listD A s' s'.heap := by rw [hhp]; exact vx_Zq.moved hW0.alike (hN.kept hS.2.1)
  have h : ∀ w ∈ Bundle.ownAtoms0 own ic cls names, w.before args s' = true := vx_own hat' (vx_isRefq hU'.1) (vx_isRefq hN'.1) hU'.2.word hN'.2.word
  have hown' : s'.vm.findClass own = some m.cls := by rw [hvm]; exact hown
  have hins : (Cond.instantiable cls 6).before args s' = true := h _ (by simp [Bundle.ownAtoms0])
  obtain ⟨vm₁, cX, kX, hfX, hkX, -, -, X₁, st1⟩ := Y.newCold hexec (own := own) (C := cls) (index := ik) (n := 6) hown' hk' hins hini'
    (g := F0 m pc ls rest) rfl (by rw [hb]; exact d0) (Nat.le_refl _) (Nat.le_refl _)
  generalize hT1 : (T.setVm vm₁).pushCell { cls := cX, slots := kX.instanceTypes.map defaultValue, vm := .none } = T1 at X₁ st1
  have hcat : (Value.ref T.heap.size).category = 1 := rfl
  have hcellA : T1.heap[T.heap.size]? = some (freshCell cX kX) := by rw [← hT1]; exact State.heap_pushCell_size _ _
  have d3' : decode c.code (pc + 3) = .ok (.dup, 1) := by rw [hb]; exact d3
  obtain ⟨U, hsteps, hrun, hend, hW, hsame, ce, hce, hO⟩ := X₁.ctorThrow0 hexec htr (own := own) (cls := cls) (names := names) (ic := ic) hown' hcls hnames h (fun x hx => nomatch hx) hfX hkX hcellA (by rw [hhp, hT]; exact Nat.le_refl _)
    (g := { method := m, pc := pc + 4, locals := ls, stack := .ref T.heap.size :: .ref T.heap.size :: rest, locked := none }) rfl hsize rfl rfl (rest := rest) rfl
    (by rw [hb]; exact d4) (by rw [hb]; exact d7) hout hRframes (by simp only [List.map_cons, List.sum_cons, hcat]; omega) hlocks
  obtain ⟨f1, f2⟩ := vx_frame hsame
  rw [hhp] at f1 f2
  have hWs : s.WarmedH U.vm := State.WarmedH.trans hW0 hW
  have hcl : s.vm.findClass cls = some ce.cls := by
    have h9 := hO.cls
    rw [hvm] at h9
    exact h9
  have hall : s.sameButNew ({ U with vm := s.vm } : State) locs mc ms := by
    subst hA
    obtain ⟨e1, e2⟩ := hsame
    rw [State.setFrames_setFrames] at e1
    have h2 : (T.setVm s.vm).sameButNew ({ U with vm := s.vm } : State) [] (0 + 1) (0 + 6) := ⟨e1, e2⟩
    have h3 := X.same.trans h2
    rw [List.append_nil] at h3
    exact h3.mono hc hs
  refine ⟨U, ?_, .threw T.heap.size, hrun, hend, Or.inr ⟨T.heap.size, rfl, cls, ce, locs, hx U hWs.alike f1 (fun q hq => f2 q hq (fun z hz => nomatch hz)), hce, hO.vm, hcl, hWs, hall, hf⟩⟩
  refine st1 _ ?_
  show Steps p.tables e below (T1.setTop { method := m, pc := pc + 3, locals := ls, stack := .ref T.heap.size :: rest, locked := none }) _
  jvm_step X₁.here [X₁.here.top, hexec, d3', Value.category]
  exact hsteps
/-- 'throw new E("text")': new; dup; ldc; invokespecial; athrow -/
theorem vx_throwS {cc : ByteArray} {pc : Nat} (hexec : p.tables.exec = Jvm.exec) (hb : c.code = cc) (hl : l.stackTraces = false) {own cls text : String} {names : List String} {ik is ic mc ms sa : Nat} {A : Nat → Prop}
    (hown : s.vm.findClass own = some m.cls) (hcls : Bundle.fit cls = true) (hnames : ∀ n ∈ names, Bundle.fit n = true)
    (hk : (Cond.classLink own ik cls).before args s = true) (hini : (Cond.initialized cls).before args s = true) (hstr : vk_R own is text sa s) (hat : ∀ w ∈ vx_atS own ic cls names, w.before args s = true)
    (hgood : ∀ w ∈ Cond.classLink own ik cls :: Cond.initialized cls :: vx_atS own ic cls names, vx_ot w = true)
    (hU : vx_Zq Bundle.tN "UNASSIGNED_STACK" Bundle.steD A s s.heap) (hN : vx_Zq Bundle.tN "SUPPRESSED_SENTINEL" Bundle.listD A s s.heap) (hS : va_S A s.heap H locs) (hsize : ls.size = c.maxLocals)
    (d0 : decode cc pc = .ok (.new ik, 3)) (d3 : decode cc (pc + 3) = .ok (.dup, 1)) (d4 : decode cc (pc + 4) = .ok (.ldc is, 2)) (d6 : decode cc (pc + 6) = .ok (.invokespecial ic, 3)) (d9 : decode cc (pc + 9) = .ok (.athrow, 1))
    (hout : ∀ x ∈ c.exceptionTable.toList, covers x (pc + 9) = false)
    (hRframes : names.length + 3 < R.frames) (hRlocals : (rest.map fun v => v.category).sum + (13 * (names.length + 1) + 43) ≤ R.locals) (hRcells : cells + 1 ≤ R.cells) (hRslots : slots + 6 ≤ R.slots) (hlocks : meth.locks = false)
    (hx : ∀ t : State, s.vm.Alike t.vm → H.size ≤ t.heap.size → (∀ q : Nat, q < H.size → t.heap[q]? = H[q]?) → XC cls s t)
    (hf : ∀ z ∈ locs, free z.base) (hc : cells + 1 ≤ mc) (hs : slots + 6 ≤ ms) :
    W p l e R s m args below meth c H locs cells slots (vx_MQ below Qc XC args s mc ms free) (F0 m pc ls rest) := by
  intro T hT X
  have htr : e.platform.stackTraces = false := (show e.platform.stackTraces = l.stackTraces by rw [X.admits.platform]).trans hl
  have Y := vx_rebase X (R' := { frames := R.frames, locals := R.locals, cells := 1, slots := 6 }) (Nat.le_refl _) (Nat.le_refl _) hRcells hRslots
  obtain ⟨s', hA⟩ : ∃ z, z = (T.setVm s.vm).setFrames (.invoking m args :: below) := ⟨_, rfl⟩
  rw [← hA] at Y
  have hvm : s'.vm = s.vm := by rw [hA]; rfl
  have hhp : s'.heap = H := by rw [hA]; exact hT
  have hW0 : s.WarmedH s'.vm := by rw [hvm]; exact State.WarmedH.refl s
  have hat' : ∀ w ∈ vx_atS own ic cls names, w.before args s' = true := fun w hw => vx_ot_at hW0 hvm.symm (hgood w (List.mem_cons_of_mem _ (List.mem_cons_of_mem _ hw))) (hat w hw)
  have hk' : (Cond.classLink own ik cls).before args s' = true := vx_ot_at hW0 hvm.symm (hgood _ List.mem_cons_self) hk
  have hini' : (Cond.initialized cls).before args s' = true := vx_ot_at hW0 hvm.symm (hgood _ (List.mem_cons_of_mem _ List.mem_cons_self)) hini
  have hU' : vx_Zq Bundle.tN "UNASSIGNED_STACK" Bundle.steD A s' s'.heap := by rw [hhp]; exact vx_Zq.moved hW0.alike (hU.kept hS.2.1)
  have hN' : vx_Zq Bundle.tN "SUPPRESSED_SENTINEL" Bundle.listD A s' s'.heap := by rw [hhp]; exact vx_Zq.moved hW0.alike (hN.kept hS.2.1)
  have h : ∀ w ∈ Bundle.ownAtoms own ic cls names, w.before args s' = true := vx_own hat' (vx_isRefq hU'.1) (vx_isRefq hN'.1) hU'.2.word hN'.2.word
  have hown' : s'.vm.findClass own = some m.cls := by rw [hvm]; exact hown
  have hins : (Cond.instantiable cls 6).before args s' = true := h _ (by simp [Bundle.ownAtoms])
  obtain ⟨vm₁, cX, kX, hfX, hkX, -, -, X₁, st1⟩ := Y.newCold hexec (own := own) (C := cls) (index := ik) (n := 6) hown' hk' hins hini'
    (g := F0 m pc ls rest) rfl (by rw [hb]; exact d0) (Nat.le_refl _) (Nat.le_refl _)
  generalize hT1 : (T.setVm vm₁).pushCell { cls := cX, slots := kX.instanceTypes.map defaultValue, vm := .none } = T1 at X₁ st1
  have hcat : (Value.ref T.heap.size).category = 1 := rfl
  have hcellA : T1.heap[T.heap.size]? = some (freshCell cX kX) := by rw [← hT1]; exact State.heap_pushCell_size _ _
  have d3' : decode c.code (pc + 3) = .ok (.dup, 1) := by rw [hb]; exact d3
  have d4' : decode c.code (pc + 4) = .ok (.ldc is, 2) := by rw [hb]; exact d4
  have hstr' : vk_R own is text sa s' := vk_R.warm hW0 hstr
  obtain ⟨U, hsteps, hrun, hend, hW, hsame, ce, hce, hO⟩ := X₁.ctorThrowS hexec htr (own := own) (cls := cls) (names := names) (ic := ic) hown' hcls hnames h (fun x hx => nomatch hx) hfX hkX hcellA (by rw [hhp, hT]; exact Nat.le_refl _) (msg := .ref sa) rfl
    (g := { method := m, pc := pc + 6, locals := ls, stack := .ref sa :: .ref T.heap.size :: .ref T.heap.size :: rest, locked := none }) rfl hsize rfl rfl (rest := rest) rfl
    (by rw [hb]; exact d6) (by rw [hb]; exact d9) hout hRframes (by simp only [List.map_cons, List.sum_cons, hcat]; omega) hlocks
  obtain ⟨f1, f2⟩ := vx_frame hsame
  rw [hhp] at f1 f2
  have hWs : s.WarmedH U.vm := State.WarmedH.trans hW0 hW
  have hcl : s.vm.findClass cls = some ce.cls := by
    have h9 := hO.cls
    rw [hvm] at h9
    exact h9
  have hall : s.sameButNew ({ U with vm := s.vm } : State) locs mc ms := by
    subst hA
    obtain ⟨e1, e2⟩ := hsame
    rw [State.setFrames_setFrames] at e1
    have h2 : (T.setVm s.vm).sameButNew ({ U with vm := s.vm } : State) [] (0 + 1) (0 + 6) := ⟨e1, e2⟩
    have h3 := X.same.trans h2
    rw [List.append_nil] at h3
    exact h3.mono hc hs
  refine ⟨U, ?_, .threw T.heap.size, hrun, hend, Or.inr ⟨T.heap.size, rfl, cls, ce, locs, hx U hWs.alike f1 (fun q hq => f2 q hq (fun z hz => nomatch hz)), hce, hO.vm, hcl, hWs, hall, hf⟩⟩
  refine st1 _ ?_
  show Steps p.tables e below (T1.setTop { method := m, pc := pc + 3, locals := ls, stack := .ref T.heap.size :: rest, locked := none }) _
  jvm_step X₁.here [X₁.here.top, hexec, d3', Value.category]
  exact X₁.ldcString hexec (own := own) (text := text) (index := is) (a := sa) hown' hstr'.1 hstr'.2
    (g := { method := m, pc := pc + 4, locals := ls, stack := .ref T.heap.size :: .ref T.heap.size :: rest, locked := none }) rfl d4' _ hsteps
/-- 'throw new E("text")', the text by a wide index -/
theorem vx_throwSW {cc : ByteArray} {pc : Nat} (hexec : p.tables.exec = Jvm.exec) (hb : c.code = cc) (hl : l.stackTraces = false) {own cls text : String} {names : List String} {ik is ic mc ms sa : Nat} {A : Nat → Prop}
    (hown : s.vm.findClass own = some m.cls) (hcls : Bundle.fit cls = true) (hnames : ∀ n ∈ names, Bundle.fit n = true)
    (hk : (Cond.classLink own ik cls).before args s = true) (hini : (Cond.initialized cls).before args s = true) (hstr : vk_R own is text sa s) (hat : ∀ w ∈ vx_atS own ic cls names, w.before args s = true)
    (hgood : ∀ w ∈ Cond.classLink own ik cls :: Cond.initialized cls :: vx_atS own ic cls names, vx_ot w = true)
    (hU : vx_Zq Bundle.tN "UNASSIGNED_STACK" Bundle.steD A s s.heap) (hN : vx_Zq Bundle.tN "SUPPRESSED_SENTINEL" Bundle.listD A s s.heap) (hS : va_S A s.heap H locs) (hsize : ls.size = c.maxLocals)
    (d0 : decode cc pc = .ok (.new ik, 3)) (d3 : decode cc (pc + 3) = .ok (.dup, 1)) (d4 : decode cc (pc + 4) = .ok (.ldc_w is, 3)) (d7 : decode cc (pc + 7) = .ok (.invokespecial ic, 3)) (d10 : decode cc (pc + 10) = .ok (.athrow, 1))
    (hout : ∀ x ∈ c.exceptionTable.toList, covers x (pc + 10) = false)
    (hRframes : names.length + 3 < R.frames) (hRlocals : (rest.map fun v => v.category).sum + (13 * (names.length + 1) + 43) ≤ R.locals) (hRcells : cells + 1 ≤ R.cells) (hRslots : slots + 6 ≤ R.slots) (hlocks : meth.locks = false)
    (hx : ∀ t : State, s.vm.Alike t.vm → H.size ≤ t.heap.size → (∀ q : Nat, q < H.size → t.heap[q]? = H[q]?) → XC cls s t)
    (hf : ∀ z ∈ locs, free z.base) (hc : cells + 1 ≤ mc) (hs : slots + 6 ≤ ms) :
    W p l e R s m args below meth c H locs cells slots (vx_MQ below Qc XC args s mc ms free) (F0 m pc ls rest) := by
  intro T hT X
  have htr : e.platform.stackTraces = false := (show e.platform.stackTraces = l.stackTraces by rw [X.admits.platform]).trans hl
  have Y := vx_rebase X (R' := { frames := R.frames, locals := R.locals, cells := 1, slots := 6 }) (Nat.le_refl _) (Nat.le_refl _) hRcells hRslots
  obtain ⟨s', hA⟩ : ∃ z, z = (T.setVm s.vm).setFrames (.invoking m args :: below) := ⟨_, rfl⟩
  rw [← hA] at Y
  have hvm : s'.vm = s.vm := by rw [hA]; rfl
  have hhp : s'.heap = H := by rw [hA]; exact hT
  have hW0 : s.WarmedH s'.vm := by rw [hvm]; exact State.WarmedH.refl s
  have hat' : ∀ w ∈ vx_atS own ic cls names, w.before args s' = true := fun w hw => vx_ot_at hW0 hvm.symm (hgood w (List.mem_cons_of_mem _ (List.mem_cons_of_mem _ hw))) (hat w hw)
  have hk' : (Cond.classLink own ik cls).before args s' = true := vx_ot_at hW0 hvm.symm (hgood _ List.mem_cons_self) hk
  have hini' : (Cond.initialized cls).before args s' = true := vx_ot_at hW0 hvm.symm (hgood _ (List.mem_cons_of_mem _ List.mem_cons_self)) hini
  have hU' : vx_Zq Bundle.tN "UNASSIGNED_STACK" Bundle.steD A s' s'.heap := by rw [hhp]; exact vx_Zq.moved hW0.alike (hU.kept hS.2.1)
  have hN' : vx_Zq Bundle.tN "SUPPRESSED_SENTINEL" Bundle.listD A s' s'.heap := by rw [hhp]; exact vx_Zq.moved hW0.alike (hN.kept hS.2.1)
  have h : ∀ w ∈ Bundle.ownAtoms own ic cls names, w.before args s' = true := vx_own hat' (vx_isRefq hU'.1) (vx_isRefq hN'.1) hU'.2.word hN'.2.word
  have hown' : s'.vm.findClass own = some m.cls := by rw [hvm]; exact hown
  have hins : (Cond.instantiable cls 6).before args s' = true := h _ (by simp [Bundle.ownAtoms])
  obtain ⟨vm₁, cX, kX, hfX, hkX, -, -, X₁, st1⟩ := Y.newCold hexec (own := own) (C := cls) (index := ik) (n := 6) hown' hk' hins hini'
    (g := F0 m pc ls rest) rfl (by rw [hb]; exact d0) (Nat.le_refl _) (Nat.le_refl _)
  generalize hT1 : (T.setVm vm₁).pushCell { cls := cX, slots := kX.instanceTypes.map defaultValue, vm := .none } = T1 at X₁ st1
  have hcat : (Value.ref T.heap.size).category = 1 := rfl
  have hcellA : T1.heap[T.heap.size]? = some (freshCell cX kX) := by rw [← hT1]; exact State.heap_pushCell_size _ _
  have d3' : decode c.code (pc + 3) = .ok (.dup, 1) := by rw [hb]; exact d3
  have d4' : decode c.code (pc + 4) = .ok (.ldc_w is, 3) := by rw [hb]; exact d4
  have hstr' : vk_R own is text sa s' := vk_R.warm hW0 hstr
  obtain ⟨U, hsteps, hrun, hend, hW, hsame, ce, hce, hO⟩ := X₁.ctorThrowS hexec htr (own := own) (cls := cls) (names := names) (ic := ic) hown' hcls hnames h (fun x hx => nomatch hx) hfX hkX hcellA (by rw [hhp, hT]; exact Nat.le_refl _) (msg := .ref sa) rfl
    (g := { method := m, pc := pc + 7, locals := ls, stack := .ref sa :: .ref T.heap.size :: .ref T.heap.size :: rest, locked := none }) rfl hsize rfl rfl (rest := rest) rfl
    (by rw [hb]; exact d7) (by rw [hb]; exact d10) hout hRframes (by simp only [List.map_cons, List.sum_cons, hcat]; omega) hlocks
  obtain ⟨f1, f2⟩ := vx_frame hsame
  rw [hhp] at f1 f2
  have hWs : s.WarmedH U.vm := State.WarmedH.trans hW0 hW
  have hcl : s.vm.findClass cls = some ce.cls := by
    have h9 := hO.cls
    rw [hvm] at h9
    exact h9
  have hall : s.sameButNew ({ U with vm := s.vm } : State) locs mc ms := by
    subst hA
    obtain ⟨e1, e2⟩ := hsame
    rw [State.setFrames_setFrames] at e1
    have h2 : (T.setVm s.vm).sameButNew ({ U with vm := s.vm } : State) [] (0 + 1) (0 + 6) := ⟨e1, e2⟩
    have h3 := X.same.trans h2
    rw [List.append_nil] at h3
    exact h3.mono hc hs
  refine ⟨U, ?_, .threw T.heap.size, hrun, hend, Or.inr ⟨T.heap.size, rfl, cls, ce, locs, hx U hWs.alike f1 (fun q hq => f2 q hq (fun z hz => nomatch hz)), hce, hO.vm, hcl, hWs, hall, hf⟩⟩
  refine st1 _ ?_
  show Steps p.tables e below (T1.setTop { method := m, pc := pc + 3, locals := ls, stack := .ref T.heap.size :: rest, locked := none }) _
  jvm_step X₁.here [X₁.here.top, hexec, d3', Value.category]
  exact X₁.ldcStringW hexec (own := own) (text := text) (index := is) (a := sa) hown' hstr'.1 hstr'.2
    (g := { method := m, pc := pc + 4, locals := ls, stack := .ref T.heap.size :: .ref T.heap.size :: rest, locked := none }) rfl d4' _ hsteps
end Ends
section Bodies
variable {l : Launch}
theorem vx_ofW {y : MethodName} {ws ws' : List Cond} {rm : Room} {Pc : Array Value → State → Prop} {Qc : Array Value → State → Outcome → State → Prop} {XC : String → State → State → Prop} {mc ms : Nat} {free : Addr → Prop} {cc : ByteArray} {maxL : Nat} {ret : Option FieldType}
    (hy : plainName y.cls = true) (hw : ws = Cond.code y cc maxL ret :: ws')
    (body : ∀ p e s m args below meth c s₁, BodyLoose p l y (headSpec ws rm) cc maxL ret e s m args below meth c s₁ → c.maxLocals = maxL → (∀ x ∈ c.exceptionTable.toList, False) → Pc args s →
      W p l e (headSpec ws rm).room s m args below meth c s.heap [] 0 0 (vx_MQ below Qc XC args s mc ms free) (entryFrame m args maxL)) : vx_Met l y ws rm Pc Qc XC mc ms free := by
  refine MetFree.of_bodyS (code := cc) (maxLocals := maxL) (ret := ret) hy ?_ ?_
  · intro args s m h hn
    obtain ⟨meth, c, h1, h2, h3, h4, h5, h6, -, -⟩ := Cond.code_spec hn (atoms_spec (ws := ws) h _ (by rw [hw]; exact List.mem_cons_self))
    exact ⟨meth, c, h1, h2, h3, h4, h5, h6⟩
  · intro p e s m args below meth c s₁ B hml hP _
    have hh0 : s₁.heap = s.heap := by rw [B.state]; rfl
    have ht : ∀ x ∈ c.exceptionTable.toList, False := by
      obtain ⟨meth9, c9, h1, h2, -, -, -, -, h7, -⟩ := Cond.code_spec B.named (atoms_spec (ws := ws) B.pre _ (by rw [hw]; exact List.mem_cons_self))
      cases Option.some.inj (h1.symm.trans B.method)
      cases Option.some.inj (h2.symm.trans (Stand.of_body B).code)
      intro x hx
      rw [Array.isEmpty_iff.mp h7] at hx
      cases hx
    obtain ⟨t, a1, o, b1, b2, b3⟩ := body p e s m args below meth c s₁ B hml ht hP s₁ hh0 (Stand.of_body B)
    exact ⟨t, o, a1, b1, b2, b3⟩
/-- the table of a body with handlers -/
theorem vx_table {p : Program} {x y : MethodName} {S : Spec} {cc bytes : ByteArray} {maxL maxL' : Nat} {ret ret' : Option FieldType} {e : Env} {s s₁ : State} {m : MethodId} {args : Array Value} {below : List Frame} {meth : Method} {c : Code} {hh : List (Nat × Nat × Nat × Nat)}
    (B : BodyLoose p l y S cc maxL ret e s m args below meth c s₁) (h : (Cond.codeWith y bytes maxL' ret' hh).before args s = true) : c.exceptionTable.toList = tableOf hh := by
  obtain ⟨m9, meth9, c9, hn9, h1, h2, -, -, h6, -⟩ := Cond.codeWith_spec h
  cases Option.some.inj (hn9.symm.trans B.named)
  cases Option.some.inj (h1.symm.trans B.method)
  cases Option.some.inj (h2.symm.trans (Stand.of_body B).code)
  rw [← h6, table_eq]
end Bodies
end VXA
/-! ===== END ===== -/
/-! ===== BEGIN a static call of a method with an exception table ===== -/
section VXS
variable {p : Program} {l : Launch} {e : Env} {R : Room} {s : State} {m : MethodId} {args : Array Value} {below : List Frame} {meth : Method} {c : Code} {T : State} {H : Heap} {locs : List Loc} {cells slots : Nat}
abbrev vx_CSW (R : Room) (s : State) (args : Array Value) (own : String) (index : Nat) (y : MethodName) (bytes : ByteArray) (maxL : Nat) (ret : Option FieldType) (hh : List (Nat × Nat × Nat × Nat)) (ws : List Cond) (rm : Room) (mc ms n : Nat) : Prop :=
  (rm.cells = mc ∧ rm.slots = ms ∧ rm.frames + 1 ≤ R.frames ∧ 8 + (maxL + 11) + rm.locals ≤ R.locals ∧ (∀ w ∈ ws, ∀ (a' : Array Value) (U : State), s.WarmedH U.vm → w.before a' U = true) ∧ Cond.codeWith y bytes maxL ret hh ∈ ws) ∧
  (Cond.codeWith y bytes maxL ret hh).before args s = true ∧ (Cond.initialized y.cls).before args s = true ∧ (y.cls ≠ "java/lang/invoke/MethodHandle" ∧ y.cls ≠ "java/lang/invoke/VarHandle") ∧
  (∀ sig, parseMethodDescriptor y.desc = some sig → n = sig.parameters.length) ∧ (Cond.methodLink own index y).before args s = true ∧ (Cond.static y).before args s = true
theorem vx_cwSW {own : String} {index maxL mc ms : Nat} {y : MethodName} {bytes : ByteArray} {ret : Option FieldType} {hh : List (Nat × Nat × Nat × Nat)} {Ts ws ws' : List Cond} {rm : Room} (n : Nat) (ht : ∀ w ∈ Ts, w.before args s = true) (hT : GoodIn Ts (va_wsS own index y ws)) (hw : ws = Cond.codeWith y bytes maxL ret hh :: ws') (hrc : rm.cells = mc) (hrs : rm.slots = ms)
    (hd : y.cls ≠ "java/lang/invoke/MethodHandle" ∧ y.cls ≠ "java/lang/invoke/VarHandle" ∧ (parseMethodDescriptor y.desc).map (fun d => d.parameters.length) = some n) (hR : rm.frames + 1 ≤ R.frames ∧ 8 + (maxL + 11) + rm.locals ≤ R.locals) :
    vx_CSW R s args own index y bytes maxL ret hh ws rm mc ms n := by
  have ok : ∀ w ∈ va_wsS own index y ws, w.before args s = true := fun w h => ht w (hT w h).1
  have hG : GoodIn Ts ws := fun w h => hT w (by unfold va_wsS; exact List.mem_append_right _ h)
  have hc : Cond.codeWith y bytes maxL ret hh ∈ ws := by rw [hw]; exact List.mem_cons_self
  refine ⟨⟨hrc, hrs, hR.1, hR.2, pay_in ht hG, hc⟩, ht _ (hG _ hc).1, ok _ (by simp [va_wsS]), ⟨hd.1, hd.2.1⟩, fun sig h => ?_, ok _ (by simp [va_wsS]), ok _ (by simp [va_wsS])⟩
  have h2 := hd.2.2
  rw [h] at h2
  exact (Option.some.inj h2).symm
theorem vx_callSW (X : Stand p l e R s m args below meth c T locs cells slots) (hexec : p.tables.exec = Jvm.exec) {own : String} {index : Nat} {y : MethodName} {bytes : ByteArray} {maxL : Nat} {ret : Option FieldType} {hh : List (Nat × Nat × Nat × Nat)}
    (hown : s.vm.findClass own = some m.cls) (hlink : (Cond.methodLink own index y).before args s = true) (hstat : (Cond.static y).before args s = true) (hinit : (Cond.initialized y.cls).before args s = true)
    (hcode : (Cond.codeWith y bytes maxL ret hh).before args s = true) (hy : y.cls ≠ "java/lang/invoke/MethodHandle" ∧ y.cls ≠ "java/lang/invoke/VarHandle")
    {W9 : Nat} {Pre : Pt → Array Value → Prop} {Post : Pt → Array Value → Option Value → Pt → Prop} (hK : Back l R p e below s args y 3 W9 Pre Post)
    {g : JFrame} (hg : g.method = m) (hsize : g.locals.size = c.maxLocals) {argsL rest : List Value} (hlen : ∀ sig, parseMethodDescriptor y.desc = some sig → argsL.length = sig.parameters.length)
    (hstack : g.stack = argsL.reverse ++ rest) (hW : 2 * g.monitorRoom + (rest.map fun v => v.category).sum ≤ W9) (hdg : decode c.code g.pc = .ok (.invokestatic index, 3))
    (hpre : ∀ vm₁, s.WarmedH vm₁ → Pre ⟨T.setVm vm₁, locs, cells, slots⟩ argsL.toArray) :
    ∃ (v : Option Value) (vm₁ : Vm) (B : Pt), s.WarmedH vm₁ ∧ Stand p l e R s m args below meth c B.U B.locs B.cells B.slots ∧ Post ⟨T.setVm vm₁, locs, cells, slots⟩ argsL.toArray v B ∧
      ∀ target, Steps p.tables e below (B.U.setTop { g with pc := g.pc + 3, stack := v.toList ++ rest }) target → Steps p.tables e below (T.setTop g) target := by
  obtain ⟨mk, methM, cM, hnamed, hmethM, -, -, -, -, -, -, hsigM⟩ := Cond.codeWith_spec hcode
  have hstatic : methM.isStatic = true := Cond.static_spec hnamed hmethM hstat
  obtain ⟨kP, hkP, -⟩ := className_of_methodNamed hnamed
  have hinitP : kP.init = .initialized := Cond.initialized_spec (findClass_of_methodNamed hnamed) hkP hinit
  obtain ⟨vm₁, X₁, hstep₁⟩ := X.invokestatic hexec hown hlink hnamed hmethM hstatic hkP hinitP hy (g := g) hg (argsL := argsL) (rest := rest) (hlen _ hsigM) hstack hdg
  obtain ⟨v, B, X', hpost, hsteps⟩ := hK m meth c ⟨T.setVm vm₁, locs, cells, slots⟩ { g with stack := rest } (.invokestatic index) mk argsL.toArray X₁ hg hsize hdg hW (X₁.named hnamed) (hpre vm₁ X₁.warmed)
  exact ⟨v, vm₁, B, X₁.warmed, X', hpost, fun target h => hstep₁ _ fun acts => by rw [doInvoke_state]; exact hsteps.trans h⟩
theorem vx_runSW {y : MethodName} {bytes cc : ByteArray} {maxL nL mc ms n index : Nat} {ret : Option FieldType} {hh : List (Nat × Nat × Nat × Nat)} {ws : List Cond} {rm : Room} {Pc : Array Value → State → Prop} {Qc : Array Value → State → Outcome → State → Prop} {free : Addr → Prop} {Ts : List Cond} {own : String} {As rest : List Value} {g : JFrame}
    (S : CallFix p m c cc nL s args Ts own) (hM : Met l y ws rm Pc Qc mc ms free) (cw : vx_CSW R s args own index y bytes maxL ret hh ws rm mc ms n) (hp : PreS s H Pc As)
    (hg : g.method = m) (hn : As.length = n) (hsize : g.locals.size = nL) (hstack : g.stack = As.reverse ++ rest) (hW : 2 * g.monitorRoom + (rest.map fun v => v.category).sum ≤ 8) (hdg : decode cc g.pc = .ok (.invokestatic index, 3)) (hf : cells + mc ≤ R.cells ∧ slots + ms ≤ R.slots) :
    va_Run p l e R s m args below meth c H locs cells slots mc ms g rest (Qc As.toArray) (free) := by
  obtain ⟨⟨hrc, hrs, hfr, hlo, hws, hcw⟩, hcode, hini, hy, hlen, hl, hstt⟩ := cw
  have hK : Back l R p e below s args y 3 8 (PreOf R mc ms Pc) (PostOf Qc mc ms free) := va_backW (hh := hh) (bytes := bytes) (maxL := maxL) (ret := ret) hM hp.1 hrc hrs hfr hlo hws hcw (fun a' U hW => word_at hW (Or.inl (by first | rfl | simp [Cond.onTables, Cond.keeps, Cond.steady])) hini)
  obtain ⟨hx, hb, hml, ho, -⟩ := S
  intro T hT X
  obtain ⟨v, vm₁, ⟨U', l2, c2, s2⟩, hW₁, X', ⟨g', mk, t, L, e1, e2, hq, h1, hL, h2, h3⟩, st⟩ := vx_callSW X hx (hh := hh) (bytes := bytes) (maxL := maxL) (ret := ret) ho hl hstt hini hcode hy hK hg (hsize.trans hml.symm) (argsL := As) (rest := rest) (fun sig h => hn.trans (hlen sig h)) hstack hW (by rw [hb]; exact hdg)
    (fun vm₁ hW₁ => ⟨hf.1, hf.2, hp.2 (T.setVm vm₁) hT hW₁⟩)
  dsimp only [Pt.U, Pt.locs, Pt.cells, Pt.slots] at X' e1 e2 h1 h2 h3 st
  subst h1; subst h2; subst h3
  exact ⟨v, (T.setVm vm₁).calling g' mk As.toArray, t, U', L, hT, X', hL, e1, e2, hq, st⟩
/-- not caught here, past rows that name other classes: it goes on to the caller -/
theorem vx_outP {p : Program} {l : Launch} {e : Env} {R : Room} {s : State} {m : MethodId} {args : Array Value} {below : List Frame} {meth : Method} {c : Code} {H : Heap} {locs : List Loc} {cells slots : Nat} {free : Addr → Prop} {ls : Array Slot} {rest : List Value} {Qc : Array Value → State → Outcome → State → Prop} {XC : String → State → State → Prop}
    {pc : Nat} {own E : String} {ce : Cell} {q : Addr} {mc ms : Nat} (hown : s.vm.findClass own = some m.cls) (hlocks : meth.locks = false)
    (hpass : ∀ z ∈ c.exceptionTable.toList, covers z pc = false ∨ (z.catchType ≠ 0 ∧ ∃ nm : String, (Cond.classLink own z.catchType nm).before args s = true ∧ va_Nc E nm s)) (hcell : H[q]? = some ce) (hv : ce.vm = .none) (hcl : s.vm.findClass E = some ce.cls)
    (hx : ∀ t : State, t.heap = H → s.vm.Alike t.vm → XC E s t) (hf : ∀ z ∈ locs, free z.base) (hc : cells ≤ mc) (hs : slots ≤ ms) :
    vx_W p l e R s m args below meth c H locs cells slots (vx_MQ below Qc XC args s mc ms free) (F0 m pc ls rest) q := by
  intro T hT X
  have hpl : e.platform.magicAccessors = ({} : Platform).magicAccessors := by rw [X.admits.platform]
  obtain ⟨vm', hW', X', st⟩ := X.outThrough hlocks q (g := F0 m pc ls rest) rfl rfl rfl (cell := ce) (by rw [hT]; exact hcell) (by rw [hv]; rfl)
    (by obtain ⟨k9, h9, -⟩ := Vm.findClass_spec hcl; exact ⟨k9, h9⟩) (fun z hz => by
      rcases hpass z hz with h | ⟨hz0, nm, hl1, hn1⟩
      · exact Or.inl h
      · obtain ⟨c6, hc6, hcl6⟩ := Cond.classLink_spec hown hl1 e.platform hpl
        obtain ⟨a8, b8, h1, h2, h3⟩ := hn1
        cases Option.some.inj (h1.symm.trans hcl)
        cases Option.some.inj (h2.symm.trans hc6)
        exact Or.inr ⟨hz0, _, hcl6, h3⟩)
  obtain ⟨g₀, hfr⟩ := X'.frames_eq
  have hcell9 : ((T.setVm vm').setFrames (.throwing q :: below)).heap[q]? = some ce := by
    show T.heap[q]? = some ce
    rw [hT]; exact hcell
  have hend : Ended ((T.setVm vm').setFrames (.throwing q :: below)) below (.threw q) := State.frames_setFrames _ (State.cur_lt_of_frames hfr)
  refine ⟨(T.setVm vm').setFrames (.throwing q :: below), ?_, .threw q, X'.here.running, hend, Or.inr ⟨q, rfl, E, ce, locs, hx _ hT (X'.ends _).1.alike, hcell9, hv, hcl, (X'.ends _).1, (X'.ends _).2.mono hc hs, hf⟩⟩
  rw [X.pushThrowing_eq]
  exact st
/-- a thing of a world lies in the heap -/
theorem vx_lt {D : va_G} {cl : List vw_C} {ws : va_W} {H1 : Heap} (h : va_P D cl ws H1) {k : Nat} {q : Nat × va_E} (hk : ws[k]? = some q) : q.1 < H1.size := (h k q hk).lt
end VXS
/-! ===== END ===== -/
/-! ===== BEGIN methods with a table of their own: called by a name, returning or throwing ===== -/
section VXH
/-! vx_backW, vx_callVX, vx_callSX, vx_callVW, vx_runVW, vx_runVX, vx_runSX, vx_ofWH follow the same proofs as their sisters above (Free/Laws.lean, Shelf42/LK1.lean); vx_outP calls Shelf42/NT130.lean (outThrough). -/
section
variable {l : Launch} {R : Room} {p : Program} {e : Env} {below : List Frame} {s : State} {sargs : Array Value} {y : MethodName} {len W9 : Nat}
theorem vx_backW {ws : List Cond} {rm : Room} {Pc : Array Value → State → Prop} {Qc : Array Value → State → Outcome → State → Prop} {XC : String → State → State → Prop} {mc ms : Nat} {free : Addr → Prop} {bytes : ByteArray} {maxL : Nat} {ret : Option FieldType} {hh : List (Nat × Nat × Nat × Nat)}
    (hM : vx_Met l y ws rm Pc Qc XC mc ms free) (hblind : FrameBlind Pc) (hrc : rm.cells = mc) (hrs : rm.slots = ms)
    (hframes : rm.frames + 1 ≤ R.frames) (hlocals : W9 + (maxL + 11) + rm.locals ≤ R.locals)
    (hws : ∀ w ∈ ws, ∀ a' U, s.WarmedH U.vm → w.before a' U = true) (hcode : Cond.codeWith y bytes maxL ret hh ∈ ws) (hinit : ∀ a' U, s.WarmedH U.vm → (Cond.initialized y.cls).before a' U = true) :
    vx_Back l R p e below s sargs y len W9 (PreOf R mc ms Pc) (PostOf Qc mc ms free) (vx_Post XC mc ms free) := by
  intro m meth c A g ig mk a X hg hsize hdg hW hn hp
  have h1 : (headSpec ws rm).pre.before a A.U = true := atoms_intro fun w hw => hws w hw _ _ X.warmed
  have h2 : (Cond.codeWith y bytes maxL ret hh).before a A.U = true := hws _ hcode _ _ X.warmed
  have h3 : (Cond.initialized y.cls).before a A.U = true := hinit _ _ X.warmed
  have h4 : A.cells + (headSpec ws rm).room.cells ≤ R.cells := by rw [show (headSpec ws rm).room.cells = mc from hrc]; exact hp.1
  have h5 : A.slots + (headSpec ws rm).room.slots ≤ R.slots := by rw [show (headSpec ws rm).room.slots = ms from hrs]; exact hp.2.1
  have hPc : Pc a (A.U.calling g mk a) := hblind _ _ _ _ hp.2.2
  obtain ⟨U, Ls, c0, s0⟩ := A
  dsimp only [Pt.U, Pt.locs, Pt.cells, Pt.slots] at h1 h2 h3 h4 h5 X hn hPc ⊢
  obtain ⟨m9, methY, cY, hn9, hmY, hcY, -, hlY, -⟩ := Cond.codeWith_spec h2
  cases Option.some.inj (hn9.symm.trans hn)
  obtain ⟨kY, hkY, -⟩ := className_of_methodNamed hn
  have hinitY : kY.init = .initialized := Cond.initialized_spec (findClass_of_methodNamed hn) hkY h3
  have h : At U g.method c below := by rw [hg]; exact X.here
  have hlocals9 : W9 + (maxL + 11) + (headSpec ws rm).room.locals ≤ R.locals := hlocals
  have happ : (headSpec ws rm).appliesLoose y e.platform (U.calling g mk a) = true :=
    Spec.appliesLoose_calling (g := g) h hdg hn hkY hinitY
      (X.room_calling (g := g) (R' := (headSpec ws rm).room) hsize hmY hcY hframes (by rw [hlY]; omega) h4 h5) h1
  obtain ⟨mid, hmid⟩ := h.above
  have hfr : (U.setTop g).frames = (.java g :: mid) ++ below := by rw [State.frames_setTop' g h.top, hmid]; rfl
  obtain ⟨o, s₂, hsteps, -, hend, hq⟩ := Steps.callFree hM p X.admits X.cas X.clock (acts := []) hfr happ hPc trivial
  have hq' : vx_Q Qc XC mc ms free a (U.calling g mk a) o s₂ := hq
  rw [State.frames_setTop' g h.top] at hend
  obtain ⟨g₀, hg0⟩ := Option.isSome_iff_exists.mp h.top
  obtain ⟨r, hr⟩ := State.topJava?_eq_some.mp hg0
  have hr' : (({ U with heap := s₂.heap, slotsUsed := s₂.slotsUsed } : State).setVm s₂.vm).frames = .java g₀ :: r := hr
  rcases hq' with ⟨hqc, L, hfe, hL⟩ | ⟨q, rfl, E, ce, L, hx, hce, hcv, hcl, hW₂, hsm, hL⟩
  · obtain ⟨⟨v, rfl⟩, hW₂, e2, q2, q3, q4, q5, q6⟩ := id hfe
    have e3 : s₂ = ({ (U.calling g mk a).setFrames s₂.frames with heap := s₂.heap, slotsUsed := s₂.slotsUsed } : State).setVm s₂.vm := by
      have : s₂ = ({ s₂ with vm := (U.calling g mk a).vm } : State).setVm s₂.vm := rfl
      rw [e2] at this
      exact this
    obtain ⟨c₂, i₂, len₂, hc₂, hd₂, hf₂⟩ := hend
    have hW' : U.WarmedH s₂.vm := hW₂
    have hcc : c₂ = c := by
      have h1 : s₂.code? g.method = U.code? g.method := by
        rw [State.code?_eq, State.code?_eq, hW'.alike.method?]
      exact Option.some.inj (hc₂.symm.trans (h1.trans h.code))
    subst hcc
    have hlen : len₂ = len := by rw [hdg] at hd₂; cases hd₂; rfl
    subst hlen
    have hs₂ : s₂ = (({ U with heap := s₂.heap, slotsUsed := s₂.slotsUsed } : State).setVm s₂.vm).setTop { g with pc := g.pc + len₂, stack := v.toList ++ g.stack } := by
      refine e3.trans ?_
      rw [hf₂, State.calling_eq h.top, State.setFrames_setFrames, State.setTop_of_frames _ hr', hr]
      rfl
    have hsame : U.sameButNew ({ U with heap := s₂.heap, slotsUsed := s₂.slotsUsed } : State) L mc ms := by
      refine ⟨?_, q2, q3, q4, q5, q6⟩
      obtain ⟨t, ht, -⟩ := State.frames_cons hr
      show ({ U with heap := s₂.heap, slotsUsed := s₂.slotsUsed } : State) = { U.setFrames U.frames with heap := s₂.heap, slotsUsed := s₂.slotsUsed }
      rw [State.setFrames_self ht]
    subst hg
    refine Or.inl ⟨v, ⟨(({ U with heap := s₂.heap, slotsUsed := s₂.slotsUsed } : State).setVm s₂.vm), Ls ++ L, c0 + mc, s0 + ms⟩,
      ⟨X.admits, X.cas, X.clock, X.frames, X.room, X.hears, X.method, X.code, (X.here.setHeapUsed s₂.heap s₂.slotsUsed).setVm hW'.alike, X.tail, State.WarmedH.trans X.warmed hW', X.limits, X.bytes, X.same.trans (hsame.setVm s.vm)⟩,
      ⟨g, mk, s₂, L, rfl, rfl, hqc, rfl, hL, rfl, rfl⟩, ?_⟩
    show Steps p.tables e below _ ((({ U with heap := s₂.heap, slotsUsed := s₂.slotsUsed } : State).setVm s₂.vm).setTop { g with pc := g.pc + len₂, stack := v.toList ++ g.stack })
    rw [← hs₂]
    exact hsteps
  · obtain ⟨e2, q2, q3, q4, q5, q6⟩ := id hsm
    have e3 : s₂ = ({ (U.calling g mk a).setFrames s₂.frames with heap := s₂.heap, slotsUsed := s₂.slotsUsed } : State).setVm s₂.vm := by
      have : s₂ = ({ s₂ with vm := (U.calling g mk a).vm } : State).setVm s₂.vm := rfl
      rw [e2] at this
      exact this
    have hf₂ : s₂.frames = .throwing q :: .java g :: U.frames.tail := hend
    have hW' : U.WarmedH s₂.vm := hW₂
    have hs₂ : s₂ = ((({ U with heap := s₂.heap, slotsUsed := s₂.slotsUsed } : State).setVm s₂.vm).setTop g).pushFrame (.throwing q) := by
      refine e3.trans ?_
      rw [hf₂, State.calling_eq h.top, State.setFrames_setFrames, State.pushFrame, State.frames_setTop _ hr', State.setTop_of_frames _ hr', State.setFrames_setFrames, hr]
      rfl
    have hsame : U.sameButNew ({ U with heap := s₂.heap, slotsUsed := s₂.slotsUsed } : State) L mc ms := by
      refine ⟨?_, q2, q3, q4, q5, q6⟩
      obtain ⟨t, ht, -⟩ := State.frames_cons hr
      show ({ U with heap := s₂.heap, slotsUsed := s₂.slotsUsed } : State) = { U.setFrames U.frames with heap := s₂.heap, slotsUsed := s₂.slotsUsed }
      rw [State.setFrames_self ht]
    subst hg
    refine Or.inr ⟨q, ⟨(({ U with heap := s₂.heap, slotsUsed := s₂.slotsUsed } : State).setVm s₂.vm), Ls ++ L, c0 + mc, s0 + ms⟩,
      ⟨X.admits, X.cas, X.clock, X.frames, X.room, X.hears, X.method, X.code, (X.here.setHeapUsed s₂.heap s₂.slotsUsed).setVm hW'.alike, X.tail, State.WarmedH.trans X.warmed hW', X.limits, X.bytes, X.same.trans (hsame.setVm s.vm)⟩,
      ⟨g, mk, s₂, L, E, ce, rfl, rfl, hx, hce, hcv, hcl, rfl, hL, rfl, rfl⟩, ?_⟩
    show Steps p.tables e below _ (((({ U with heap := s₂.heap, slotsUsed := s₂.slotsUsed } : State).setVm s₂.vm).setTop g).pushFrame (.throwing q))
    rw [← hs₂]
    exact hsteps
end
variable {p : Program} {l : Launch} {e : Env} {R : Room} {s : State} {m : MethodId} {args : Array Value} {below : List Frame} {meth : Method} {c : Code} {T : State} {H : Heap} {locs : List Loc} {cells slots : Nat}
theorem vx_callVX (X : Stand p l e R s m args below meth c T locs cells slots) (hexec : p.tables.exec = Jvm.exec) {own C : String} {index : Nat} {y : MethodName} {bytes : ByteArray} {maxL : Nat} {ret : Option FieldType} {hh : List (Nat × Nat × Nat × Nat)}
    (hown : s.vm.findClass own = some m.cls) (hlink : (Cond.methodLink own index y).before args s = true) (hinst : (Cond.instanceMethod y).before args s = true) (hsel : (Cond.selects C y y).before args s = true)
    (hcode : (Cond.codeWith y bytes maxL ret hh).before args s = true) (hy : y.cls ≠ "java/lang/invoke/MethodHandle" ∧ y.cls ≠ "java/lang/invoke/VarHandle")
    {W9 : Nat} {Pre : Pt → Array Value → Prop} {Post : Pt → Array Value → Option Value → Pt → Prop} {PostX : Pt → Array Value → Addr → Pt → Prop} (hK : vx_Back l R p e below s args y 3 W9 Pre Post PostX)
    {b : Addr} {cellB : Cell} (hcell : T.heap[b]? = some cellB) (hobj : cellB.vm.isStatics = false) (hcls : s.vm.findClass C = some cellB.cls)
    {g : JFrame} (hg : g.method = m) (hsize : g.locals.size = c.maxLocals) {argsL rest : List Value} (hlen : ∀ sig, parseMethodDescriptor y.desc = some sig → argsL.length = sig.parameters.length)
    (hstack : g.stack = argsL.reverse ++ .ref b :: rest) (hW : 2 * g.monitorRoom + (rest.map fun v => v.category).sum ≤ W9) (hdg : decode c.code g.pc = .ok (.invokevirtual index, 3))
    (hpre : ∀ vm₁, s.WarmedH vm₁ → Pre ⟨T.setVm vm₁, locs, cells, slots⟩ (Value.ref b :: argsL).toArray) :
    (∃ (v : Option Value) (vm₁ : Vm) (B : Pt), s.WarmedH vm₁ ∧ Stand p l e R s m args below meth c B.U B.locs B.cells B.slots ∧ Post ⟨T.setVm vm₁, locs, cells, slots⟩ (Value.ref b :: argsL).toArray v B ∧
      ∀ target, Steps p.tables e below (B.U.setTop { g with pc := g.pc + 3, stack := v.toList ++ rest }) target → Steps p.tables e below (T.setTop g) target) ∨
    (∃ (q : Addr) (vm₁ : Vm) (B : Pt), s.WarmedH vm₁ ∧ Stand p l e R s m args below meth c B.U B.locs B.cells B.slots ∧ PostX ⟨T.setVm vm₁, locs, cells, slots⟩ (Value.ref b :: argsL).toArray q B ∧
      Steps p.tables e below (T.setTop g) ((B.U.setTop { g with stack := rest }).pushFrame (.throwing q))) := by
  obtain ⟨mk, methM, hnamed, hmethM, hstM, habM⟩ := Cond.instanceMethod_spec hinst
  obtain ⟨m8, methM', cM, hn8, hmethM', -, -, -, -, -, -, hsigM⟩ := Cond.codeWith_spec hcode
  cases Option.some.inj (hn8.symm.trans hnamed)
  cases hmethM.symm.trans hmethM'
  obtain ⟨c2, r2, m2, q1, q2, q3, q4, kP, hkP, hkPi⟩ := Cond.selects_spec hsel
  cases hcls.symm.trans q1
  cases (State.methodFound?_of_named hnamed hy).symm.trans q2
  cases hnamed.symm.trans q3
  have hselP : selectMethod e.platform s.vm cellB.cls mk = .method mk := by rw [Launch.admits_selectMethod X.admits]; exact q4
  obtain ⟨vm₁, X₁, hstep₁⟩ := X.invokevirtual hexec hown hlink hnamed hmethM hstM hkP hkPi hy (a := b) (cell := cellB) hcell
    (fun z h => by rw [h] at hobj; cases hobj) hselP hmethM habM hkP hkPi (g := g) hg (argsL := argsL) (rest := rest) (hlen _ hsigM) hstack hdg
  rcases hK m meth c ⟨T.setVm vm₁, locs, cells, slots⟩ { g with stack := rest } (.invokevirtual index) mk (Value.ref b :: argsL).toArray X₁ hg hsize hdg hW (X₁.named hnamed) (hpre vm₁ X₁.warmed) with ⟨v, B, X', hpost, hsteps⟩ | ⟨q, B, X', hpost, hsteps⟩
  · exact Or.inl ⟨v, vm₁, B, X₁.warmed, X', hpost, fun target h => hstep₁ _ fun acts => by rw [doInvoke_state]; exact hsteps.trans h⟩
  · exact Or.inr ⟨q, vm₁, B, X₁.warmed, X', hpost, hstep₁ _ fun acts => by rw [doInvoke_state]; exact hsteps⟩
theorem vx_callSX (X : Stand p l e R s m args below meth c T locs cells slots) (hexec : p.tables.exec = Jvm.exec) {own : String} {index : Nat} {y : MethodName} {bytes : ByteArray} {maxL : Nat} {ret : Option FieldType} {hh : List (Nat × Nat × Nat × Nat)}
    (hown : s.vm.findClass own = some m.cls) (hlink : (Cond.methodLink own index y).before args s = true) (hstat : (Cond.static y).before args s = true) (hinit : (Cond.initialized y.cls).before args s = true)
    (hcode : (Cond.codeWith y bytes maxL ret hh).before args s = true) (hy : y.cls ≠ "java/lang/invoke/MethodHandle" ∧ y.cls ≠ "java/lang/invoke/VarHandle")
    {W9 : Nat} {Pre : Pt → Array Value → Prop} {Post : Pt → Array Value → Option Value → Pt → Prop} {PostX : Pt → Array Value → Addr → Pt → Prop} (hK : vx_Back l R p e below s args y 3 W9 Pre Post PostX)
    {g : JFrame} (hg : g.method = m) (hsize : g.locals.size = c.maxLocals) {argsL rest : List Value} (hlen : ∀ sig, parseMethodDescriptor y.desc = some sig → argsL.length = sig.parameters.length)
    (hstack : g.stack = argsL.reverse ++ rest) (hW : 2 * g.monitorRoom + (rest.map fun v => v.category).sum ≤ W9) (hdg : decode c.code g.pc = .ok (.invokestatic index, 3))
    (hpre : ∀ vm₁, s.WarmedH vm₁ → Pre ⟨T.setVm vm₁, locs, cells, slots⟩ argsL.toArray) :
    (∃ (v : Option Value) (vm₁ : Vm) (B : Pt), s.WarmedH vm₁ ∧ Stand p l e R s m args below meth c B.U B.locs B.cells B.slots ∧ Post ⟨T.setVm vm₁, locs, cells, slots⟩ argsL.toArray v B ∧
      ∀ target, Steps p.tables e below (B.U.setTop { g with pc := g.pc + 3, stack := v.toList ++ rest }) target → Steps p.tables e below (T.setTop g) target) ∨
    (∃ (q : Addr) (vm₁ : Vm) (B : Pt), s.WarmedH vm₁ ∧ Stand p l e R s m args below meth c B.U B.locs B.cells B.slots ∧ PostX ⟨T.setVm vm₁, locs, cells, slots⟩ argsL.toArray q B ∧
      Steps p.tables e below (T.setTop g) ((B.U.setTop { g with stack := rest }).pushFrame (.throwing q))) := by
  obtain ⟨mk, methM, cM, hnamed, hmethM, -, -, -, -, -, -, hsigM⟩ := Cond.codeWith_spec hcode
  have hstatic : methM.isStatic = true := Cond.static_spec hnamed hmethM hstat
  obtain ⟨kP, hkP, -⟩ := className_of_methodNamed hnamed
  have hinitP : kP.init = .initialized := Cond.initialized_spec (findClass_of_methodNamed hnamed) hkP hinit
  obtain ⟨vm₁, X₁, hstep₁⟩ := X.invokestatic hexec hown hlink hnamed hmethM hstatic hkP hinitP hy (g := g) hg (argsL := argsL) (rest := rest) (hlen _ hsigM) hstack hdg
  rcases hK m meth c ⟨T.setVm vm₁, locs, cells, slots⟩ { g with stack := rest } (.invokestatic index) mk argsL.toArray X₁ hg hsize hdg hW (X₁.named hnamed) (hpre vm₁ X₁.warmed) with ⟨v, B, X', hpost, hsteps⟩ | ⟨q, B, X', hpost, hsteps⟩
  · exact Or.inl ⟨v, vm₁, B, X₁.warmed, X', hpost, fun target h => hstep₁ _ fun acts => by rw [doInvoke_state]; exact hsteps.trans h⟩
  · exact Or.inr ⟨q, vm₁, B, X₁.warmed, X', hpost, hstep₁ _ fun acts => by rw [doInvoke_state]; exact hsteps⟩
theorem vx_callVW (X : Stand p l e R s m args below meth c T locs cells slots) (hexec : p.tables.exec = Jvm.exec) {own C : String} {index : Nat} {y : MethodName} {bytes : ByteArray} {maxL : Nat} {ret : Option FieldType} {hh : List (Nat × Nat × Nat × Nat)}
    (hown : s.vm.findClass own = some m.cls) (hlink : (Cond.methodLink own index y).before args s = true) (hinst : (Cond.instanceMethod y).before args s = true) (hsel : (Cond.selects C y y).before args s = true)
    (hcode : (Cond.codeWith y bytes maxL ret hh).before args s = true) (hy : y.cls ≠ "java/lang/invoke/MethodHandle" ∧ y.cls ≠ "java/lang/invoke/VarHandle")
    {W9 : Nat} {Pre : Pt → Array Value → Prop} {Post : Pt → Array Value → Option Value → Pt → Prop} (hK : Back l R p e below s args y 3 W9 Pre Post)
    {b : Addr} {cellB : Cell} (hcell : T.heap[b]? = some cellB) (hobj : cellB.vm.isStatics = false) (hcls : s.vm.findClass C = some cellB.cls)
    {g : JFrame} (hg : g.method = m) (hsize : g.locals.size = c.maxLocals) {argsL rest : List Value} (hlen : ∀ sig, parseMethodDescriptor y.desc = some sig → argsL.length = sig.parameters.length)
    (hstack : g.stack = argsL.reverse ++ .ref b :: rest) (hW : 2 * g.monitorRoom + (rest.map fun v => v.category).sum ≤ W9) (hdg : decode c.code g.pc = .ok (.invokevirtual index, 3))
    (hpre : ∀ vm₁, s.WarmedH vm₁ → Pre ⟨T.setVm vm₁, locs, cells, slots⟩ (Value.ref b :: argsL).toArray) :
    ∃ (v : Option Value) (vm₁ : Vm) (B : Pt), s.WarmedH vm₁ ∧ Stand p l e R s m args below meth c B.U B.locs B.cells B.slots ∧ Post ⟨T.setVm vm₁, locs, cells, slots⟩ (Value.ref b :: argsL).toArray v B ∧
      ∀ target, Steps p.tables e below (B.U.setTop { g with pc := g.pc + 3, stack := v.toList ++ rest }) target → Steps p.tables e below (T.setTop g) target := by
  obtain ⟨mk, methM, hnamed, hmethM, hstM, habM⟩ := Cond.instanceMethod_spec hinst
  obtain ⟨m8, methM', cM, hn8, hmethM', -, -, -, -, -, -, hsigM⟩ := Cond.codeWith_spec hcode
  cases Option.some.inj (hn8.symm.trans hnamed)
  cases hmethM.symm.trans hmethM'
  obtain ⟨c2, r2, m2, q1, q2, q3, q4, kP, hkP, hkPi⟩ := Cond.selects_spec hsel
  cases hcls.symm.trans q1
  cases (State.methodFound?_of_named hnamed hy).symm.trans q2
  cases hnamed.symm.trans q3
  have hselP : selectMethod e.platform s.vm cellB.cls mk = .method mk := by rw [Launch.admits_selectMethod X.admits]; exact q4
  obtain ⟨vm₁, X₁, hstep₁⟩ := X.invokevirtual hexec hown hlink hnamed hmethM hstM hkP hkPi hy (a := b) (cell := cellB) hcell
    (fun z h => by rw [h] at hobj; cases hobj) hselP hmethM habM hkP hkPi (g := g) hg (argsL := argsL) (rest := rest) (hlen _ hsigM) hstack hdg
  obtain ⟨v, B, X', hpost, hsteps⟩ := hK m meth c ⟨T.setVm vm₁, locs, cells, slots⟩ { g with stack := rest } (.invokevirtual index) mk (Value.ref b :: argsL).toArray X₁ hg hsize hdg hW (X₁.named hnamed) (hpre vm₁ X₁.warmed)
  exact ⟨v, vm₁, B, X₁.warmed, X', hpost, fun target h => hstep₁ _ fun acts => by rw [doInvoke_state]; exact hsteps.trans h⟩
abbrev vx_CVW (R : Room) (s : State) (args : Array Value) (own C : String) (index : Nat) (y : MethodName) (bytes : ByteArray) (maxL : Nat) (ret : Option FieldType) (hh : List (Nat × Nat × Nat × Nat)) (ws : List Cond) (rm : Room) (mc ms n : Nat) : Prop :=
  (rm.cells = mc ∧ rm.slots = ms ∧ rm.frames + 1 ≤ R.frames ∧ 8 + (maxL + 11) + rm.locals ≤ R.locals ∧ (∀ w ∈ ws, ∀ (a' : Array Value) (U : State), s.WarmedH U.vm → w.before a' U = true) ∧ Cond.codeWith y bytes maxL ret hh ∈ ws) ∧
  (Cond.codeWith y bytes maxL ret hh).before args s = true ∧ (Cond.initialized y.cls).before args s = true ∧ (y.cls ≠ "java/lang/invoke/MethodHandle" ∧ y.cls ≠ "java/lang/invoke/VarHandle") ∧
  (∀ sig, parseMethodDescriptor y.desc = some sig → n = sig.parameters.length) ∧ (Cond.methodLink own index y).before args s = true ∧ (Cond.instanceMethod y).before args s = true ∧ (Cond.selects C y y).before args s = true
theorem vx_cwVW {own C : String} {index maxL mc ms : Nat} {y : MethodName} {bytes : ByteArray} {ret : Option FieldType} {hh : List (Nat × Nat × Nat × Nat)} {Ts ws ws' : List Cond} {rm : Room} (n : Nat) (ht : ∀ w ∈ Ts, w.before args s = true) (hT : GoodIn Ts (wsV own index C y ws)) (hw : ws = Cond.codeWith y bytes maxL ret hh :: ws') (hrc : rm.cells = mc) (hrs : rm.slots = ms)
    (hd : y.cls = C ∧ y.cls ≠ "java/lang/invoke/MethodHandle" ∧ y.cls ≠ "java/lang/invoke/VarHandle" ∧ (parseMethodDescriptor y.desc).map (fun d => d.parameters.length) = some n) (hR : rm.frames + 1 ≤ R.frames ∧ 8 + (maxL + 11) + rm.locals ≤ R.locals) :
    vx_CVW R s args own C index y bytes maxL ret hh ws rm mc ms n := by
  obtain ⟨hC, hd⟩ := hd
  subst hC
  have ok : ∀ w ∈ wsV own index y.cls y ws, w.before args s = true := fun w h => ht w (hT w h).1
  have hG : GoodIn Ts ws := fun w h => hT w (by unfold wsV; exact List.mem_append_right _ h)
  have hc : Cond.codeWith y bytes maxL ret hh ∈ ws := by rw [hw]; exact List.mem_cons_self
  refine ⟨⟨hrc, hrs, hR.1, hR.2, pay_in ht hG, hc⟩, ht _ (hG _ hc).1, ok _ (by simp [wsV]), ⟨hd.1, hd.2.1⟩, fun sig h => ?_, ok _ (by simp [wsV]), ok _ (by simp [wsV]), ok _ (by simp [wsV])⟩
  have h2 := hd.2.2
  rw [h] at h2
  exact (Option.some.inj h2).symm
theorem vx_runVW {y : MethodName} {bytes cc : ByteArray} {maxL nL mc ms n index : Nat} {ret : Option FieldType} {hh : List (Nat × Nat × Nat × Nat)} {ws : List Cond} {rm : Room} {Pc : Array Value → State → Prop} {Qc : Array Value → State → Outcome → State → Prop} {free : Addr → Prop} {Ts : List Cond} {own C : String} {b : Addr} {As rest : List Value} {g : JFrame}
    (S : CallFix p m c cc nL s args Ts own) (hM : Met l y ws rm Pc Qc mc ms free) (cw : vx_CVW R s args own C index y bytes maxL ret hh ws rm mc ms n) (hp : PreV s H C b Pc As)
    (hg : g.method = m) (hn : As.length = n) (hsize : g.locals.size = nL) (hstack : g.stack = As.reverse ++ .ref b :: rest) (hW : 2 * g.monitorRoom + (rest.map fun v => v.category).sum ≤ 8) (hdg : decode cc g.pc = .ok (.invokevirtual index, 3)) (hf : cells + mc ≤ R.cells ∧ slots + ms ≤ R.slots) :
    va_Run p l e R s m args below meth c H locs cells slots mc ms g rest (Qc (Value.ref b :: As).toArray) free := by
  obtain ⟨⟨hrc, hrs, hfr, hlo, hws, hcw⟩, hcode, hini, hy, hlen, hl, hin, hse⟩ := cw
  have hK : Back l R p e below s args y 3 8 (PreOf R mc ms Pc) (PostOf Qc mc ms free) := va_backW (hh := hh) (bytes := bytes) (maxL := maxL) (ret := ret) hM hp.1 hrc hrs hfr hlo hws hcw (fun a' U hW => word_at hW (Or.inl (by first | rfl | simp [Cond.onTables, Cond.keeps, Cond.steady])) hini)
  obtain ⟨hx, hb, hml, ho, -⟩ := S
  obtain ⟨-, ⟨cellB, hcB, hoB, hclB⟩, hPc⟩ := hp
  intro T hT X
  obtain ⟨v, vm₁, ⟨U', l2, c2, s2⟩, hW₁, X', ⟨g', mk, t, L, e1, e2, hq, h1, hL, h2, h3⟩, st⟩ := vx_callVW X hx (C := C) (hh := hh) (bytes := bytes) (maxL := maxL) (ret := ret) ho hl hin hse hcode hy hK (by rw [hT]; exact hcB) hoB hclB hg (hsize.trans hml.symm) (argsL := As) (rest := rest) (fun sig h => hn.trans (hlen sig h)) hstack hW (by rw [hb]; exact hdg)
    (fun vm₁ hW₁ => ⟨hf.1, hf.2, hPc (T.setVm vm₁) hT hW₁⟩)
  dsimp only [Pt.U, Pt.locs, Pt.cells, Pt.slots] at X' e1 e2 h1 h2 h3 st
  subst h1; subst h2; subst h3
  exact ⟨v, (T.setVm vm₁).calling g' mk (Value.ref b :: As).toArray, t, U', L, hT, X', hL, e1, e2, hq, st⟩
section
variable {y : MethodName} {bytes cc : ByteArray} {maxL nL mc ms n index : Nat} {ret : Option FieldType} {ws : List Cond} {rm : Room} {Pc : Array Value → State → Prop} {Qc : Array Value → State → Outcome → State → Prop} {XC : String → State → State → Prop} {free : Addr → Prop} {Ts : List Cond} {own C : String} {b : Addr} {As rest : List Value} {g : JFrame}
theorem vx_runVX {hh : List (Nat × Nat × Nat × Nat)} (S : CallFix p m c cc nL s args Ts own) (hM : vx_Met l y ws rm Pc Qc XC mc ms free) (cw : vx_CVW R s args own C index y bytes maxL ret hh ws rm mc ms n) (hp : PreV s H C b Pc As)
    (hg : g.method = m) (hn : As.length = n) (hsize : g.locals.size = nL) (hstack : g.stack = As.reverse ++ .ref b :: rest) (hW : 2 * g.monitorRoom + (rest.map fun v => v.category).sum ≤ 8) (hdg : decode cc g.pc = .ok (.invokevirtual index, 3)) (hf : cells + mc ≤ R.cells ∧ slots + ms ≤ R.slots) :
    vx_Run p l e R s m args below meth c H locs cells slots mc ms g rest (Qc (Value.ref b :: As).toArray) XC free := by
  obtain ⟨⟨hrc, hrs, hfr, hlo, hws, hcw⟩, hcode, hini, hy, hlen, hl, hin, hse⟩ := cw
  have hK : vx_Back l R p e below s args y 3 8 (PreOf R mc ms Pc) (PostOf Qc mc ms free) (vx_Post XC mc ms free) := vx_backW (hh := hh) (bytes := bytes) (maxL := maxL) (ret := ret) hM hp.1 hrc hrs hfr hlo hws hcw (fun a' U hW => word_at hW (Or.inl (by first | rfl | simp [Cond.onTables, Cond.keeps, Cond.steady])) hini)
  obtain ⟨hx, hb, hml, ho, -⟩ := S
  obtain ⟨-, ⟨cellB, hcB, hoB, hclB⟩, hPc⟩ := hp
  intro T hT X
  rcases vx_callVX X hx (C := C) (hh := hh) (bytes := bytes) (maxL := maxL) (ret := ret) ho hl hin hse hcode hy hK (by rw [hT]; exact hcB) hoB hclB hg (hsize.trans hml.symm) (argsL := As) (rest := rest) (fun sig h => hn.trans (hlen sig h)) hstack hW (by rw [hb]; exact hdg)
    (fun vm₁ hW₁ => ⟨hf.1, hf.2, hPc (T.setVm vm₁) hT hW₁⟩) with ⟨v, vm₁, ⟨U', l2, c2, s2⟩, hW₁, X', ⟨g', mk, t, L, e1, e2, hq, h1, hL, h2, h3⟩, st⟩ | ⟨q, vm₁, ⟨U', l2, c2, s2⟩, hW₁, X', ⟨g', mk, t, L, E, ce, e1, e2, hq, hce, hcv, hcl, h1, hL, h2, h3⟩, st⟩
  · dsimp only [Pt.U, Pt.locs, Pt.cells, Pt.slots] at X' e1 e2 h1 h2 h3 st
    subst h1; subst h2; subst h3
    exact Or.inl ⟨v, (T.setVm vm₁).calling g' mk (Value.ref b :: As).toArray, t, U', L, hT, X', hL, e1, e2, hq, st⟩
  · dsimp only [Pt.U, Pt.locs, Pt.cells, Pt.slots] at X' e1 e2 h1 h2 h3 st hcl
    subst h1; subst h2; subst h3
    exact Or.inr ⟨q, (T.setVm vm₁).calling g' mk (Value.ref b :: As).toArray, t, U', L, E, ce, hT, X', hL, e1, e2, hq, hce, hcv, vx_cls hW₁ hcl, st⟩
theorem vx_runSX {hh : List (Nat × Nat × Nat × Nat)} (S : CallFix p m c cc nL s args Ts own) (hM : vx_Met l y ws rm Pc Qc XC mc ms free) (cw : vx_CSW R s args own index y bytes maxL ret hh ws rm mc ms n) (hp : PreS s H Pc As)
    (hg : g.method = m) (hn : As.length = n) (hsize : g.locals.size = nL) (hstack : g.stack = As.reverse ++ rest) (hW : 2 * g.monitorRoom + (rest.map fun v => v.category).sum ≤ 8) (hdg : decode cc g.pc = .ok (.invokestatic index, 3)) (hf : cells + mc ≤ R.cells ∧ slots + ms ≤ R.slots) :
    vx_Run p l e R s m args below meth c H locs cells slots mc ms g rest (Qc As.toArray) XC free := by
  obtain ⟨⟨hrc, hrs, hfr, hlo, hws, hcw⟩, hcode, hini, hy, hlen, hl, hstt⟩ := cw
  have hK : vx_Back l R p e below s args y 3 8 (PreOf R mc ms Pc) (PostOf Qc mc ms free) (vx_Post XC mc ms free) := vx_backW (hh := hh) (bytes := bytes) (maxL := maxL) (ret := ret) hM hp.1 hrc hrs hfr hlo hws hcw (fun a' U hW => word_at hW (Or.inl (by first | rfl | simp [Cond.onTables, Cond.keeps, Cond.steady])) hini)
  obtain ⟨hx, hb, hml, ho, -⟩ := S
  intro T hT X
  rcases vx_callSX X hx (hh := hh) (bytes := bytes) (maxL := maxL) (ret := ret) ho hl hstt hini hcode hy hK hg (hsize.trans hml.symm) (argsL := As) (rest := rest) (fun sig h => hn.trans (hlen sig h)) hstack hW (by rw [hb]; exact hdg)
    (fun vm₁ hW₁ => ⟨hf.1, hf.2, hp.2 (T.setVm vm₁) hT hW₁⟩) with ⟨v, vm₁, ⟨U', l2, c2, s2⟩, hW₁, X', ⟨g', mk, t, L, e1, e2, hq, h1, hL, h2, h3⟩, st⟩ | ⟨q, vm₁, ⟨U', l2, c2, s2⟩, hW₁, X', ⟨g', mk, t, L, E, ce, e1, e2, hq, hce, hcv, hcl, h1, hL, h2, h3⟩, st⟩
  · dsimp only [Pt.U, Pt.locs, Pt.cells, Pt.slots] at X' e1 e2 h1 h2 h3 st
    subst h1; subst h2; subst h3
    exact Or.inl ⟨v, (T.setVm vm₁).calling g' mk As.toArray, t, U', L, hT, X', hL, e1, e2, hq, st⟩
  · dsimp only [Pt.U, Pt.locs, Pt.cells, Pt.slots] at X' e1 e2 h1 h2 h3 st hcl
    subst h1; subst h2; subst h3
    exact Or.inr ⟨q, (T.setVm vm₁).calling g' mk As.toArray, t, U', L, E, ce, hT, X', hL, e1, e2, hq, hce, hcv, vx_cls hW₁ hcl, st⟩
end
end VXH
theorem vx_ofWH {l : Launch} {y : MethodName} {ws ws' : List Cond} {rm : Room} {Pc : Array Value → State → Prop} {Qc : Array Value → State → Outcome → State → Prop} {XC : String → State → State → Prop} {mc ms : Nat} {free : Addr → Prop} {cc : ByteArray} {maxL : Nat} {ret : Option FieldType} {hh : List (Nat × Nat × Nat × Nat)}
    (hy : plainName y.cls = true) (hw : ws = Cond.codeWith y cc maxL ret hh :: ws')
    (body : ∀ p e s m args below meth c s₁, BodyLoose p l y (headSpec ws rm) cc maxL ret e s m args below meth c s₁ → c.maxLocals = maxL → Pc args s →
      W p l e (headSpec ws rm).room s m args below meth c s.heap [] 0 0 (vx_MQ below Qc XC args s mc ms free) (entryFrame m args maxL)) : vx_Met l y ws rm Pc Qc XC mc ms free := by
  refine MetFree.of_bodyS (code := cc) (maxLocals := maxL) (ret := ret) hy ?_ ?_
  · intro args s m h hn
    obtain ⟨m9, meth, c, hn9, h1, h2, h3, h4, -, h5, h6, -⟩ := Cond.codeWith_spec (atoms_spec (ws := ws) h _ (by rw [hw]; exact List.mem_cons_self))
    cases hn.symm.trans hn9
    exact ⟨meth, c, h1, h2, h3, h4, h5, h6⟩
  · intro p e s m args below meth c s₁ B hml hP _
    have hh0 : s₁.heap = s.heap := by rw [B.state]; rfl
    obtain ⟨t, a1, o, b1, b2, b3⟩ := body p e s m args below meth c s₁ B hml hP s₁ hh0 (Stand.of_body B)
    exact ⟨t, o, a1, b1, b2, b3⟩
/-! ===== END ===== -/
end
section
/-! ===== BEGIN printed: names, fields, word lists, decode rows ===== -/
def RX0 : String := "FeastLedger$Chiefs"
def TX0 : u_T := fun k => match k with
  | 0 => ("FeastLedger$Chiefs", "blankets", "[I", true)
  | 1 => ("FeastLedger$Chiefs", "fame", "[J", true)
  | 2 => ("FeastLedger$Chiefs", "lives", "[Z", true)
  | _ => ("FeastLedger$Chiefs", "size", "I", false)
def tyX0 : Nat → FieldType := fun k => match k with
  | 0 => .array .int
  | 1 => .array .long
  | 2 => .array .boolean
  | _ => .int
abbrev wsX00 : List Cond := u_ws RX0 TX0 4
theorem nmX0 : ∀ a, a < 4 → ∀ b, b < 4 → a ≠ b → (TX0 a).2.1 ≠ (TX0 b).2.1 := by decide +kernel
theorem tyX0_ok : ∀ k, k < 4 → parseFieldDescriptor (TX0 k).2.2.1 = some (tyX0 k) := by decide +kernel
abbrev cX0_init : ByteArray := prog_2_method_1_code
def yX0_init : MethodName := ⟨RX0, "<init>", "()V"⟩
abbrev cX0_add : ByteArray := prog_2_method_2_code
def yX0_add : MethodName := ⟨RX0, "add", "(I)I"⟩
abbrev cX0_moveBlankets : ByteArray := prog_2_method_3_code
def yX0_moveBlankets : MethodName := ⟨RX0, "moveBlankets", "(III)V"⟩
abbrev cX0_placeInRank : ByteArray := prog_2_method_4_code
def yX0_placeInRank : MethodName := ⟨RX0, "placeInRank", "(I)I"⟩
def RX1 : String := "FeastLedger$Coppers"
def TX1 : u_T := fun k => match k with
  | 0 => ("FeastLedger$Coppers", "owner", "[I", true)
  | 1 => ("FeastLedger$Coppers", "firstWorth", "[I", true)
  | 2 => ("FeastLedger$Coppers", "worth", "[I", true)
  | _ => ("FeastLedger$Coppers", "size", "I", false)
def tyX1 : Nat → FieldType := fun k => match k with
  | 0 => .array .int
  | 1 => .array .int
  | 2 => .array .int
  | _ => .int
abbrev wsX10 : List Cond := u_ws RX1 TX1 4
theorem nmX1 : ∀ a, a < 4 → ∀ b, b < 4 → a ≠ b → (TX1 a).2.1 ≠ (TX1 b).2.1 := by decide +kernel
theorem tyX1_ok : ∀ k, k < 4 → parseFieldDescriptor (TX1 k).2.2.1 = some (tyX1 k) := by decide +kernel
abbrev cX1_init : ByteArray := prog_3_method_1_code
def yX1_init : MethodName := ⟨RX1, "<init>", "()V"⟩
abbrev cX1_add : ByteArray := prog_3_method_2_code
def yX1_add : MethodName := ⟨RX1, "add", "(II)I"⟩
abbrev cX1_breakOff : ByteArray := prog_3_method_3_code
def yX1_breakOff : MethodName := ⟨RX1, "breakOff", "(I)I"⟩
abbrev cX1_inherit : ByteArray := prog_3_method_4_code
def yX1_inherit : MethodName := ⟨RX1, "inherit", "(II)V"⟩
def RX2 : String := "FeastLedger$Customs"
def TX2 : u_T := fun k => match k with
  | 0 => ("FeastLedger$Customs", "fromYear", "[I", true)
  | 1 => ("FeastLedger$Customs", "returnTimes", "[I", true)
  | 2 => ("FeastLedger$Customs", "returnBy", "[I", true)
  | 3 => ("FeastLedger$Customs", "within", "[I", true)
  | 4 => ("FeastLedger$Customs", "loanTimes", "[I", true)
  | 5 => ("FeastLedger$Customs", "loanBy", "[I", true)
  | 6 => ("FeastLedger$Customs", "witness", "[I", true)
  | _ => ("FeastLedger$Customs", "size", "I", false)
def tyX2 : Nat → FieldType := fun k => match k with
  | 0 => .array .int
  | 1 => .array .int
  | 2 => .array .int
  | 3 => .array .int
  | 4 => .array .int
  | 5 => .array .int
  | 6 => .array .int
  | _ => .int
abbrev wsX20 : List Cond := u_ws RX2 TX2 8
theorem nmX2 : ∀ a, a < 8 → ∀ b, b < 8 → a ≠ b → (TX2 a).2.1 ≠ (TX2 b).2.1 := by decide +kernel
theorem tyX2_ok : ∀ k, k < 8 → parseFieldDescriptor (TX2 k).2.2.1 = some (tyX2 k) := by decide +kernel
abbrev cX2_init : ByteArray := prog_4_method_1_code
def yX2_init : MethodName := ⟨RX2, "<init>", "()V"⟩
abbrev cX2_add : ByteArray := prog_4_method_2_code
def yX2_add : MethodName := ⟨RX2, "add", "(LFeastLedger$TextReader;I)I"⟩
abbrev cX2_inForce : ByteArray := prog_4_method_3_code
def yX2_inForce : MethodName := ⟨RX2, "inForce", "(I)I"⟩
abbrev cX2_witnessShare : ByteArray := prog_4_method_4_code
def yX2_witnessShare : MethodName := ⟨RX2, "witnessShare", "(I)I"⟩
abbrev cX2_yearsToAnswer : ByteArray := prog_4_method_5_code
def yX2_yearsToAnswer : MethodName := ⟨RX2, "yearsToAnswer", "(I)I"⟩
abbrev cX2_askedFor : ByteArray := prog_4_method_6_code
def yX2_askedFor : MethodName := ⟨RX2, "askedFor", "(IJ)I"⟩
abbrev cX2_grown : ByteArray := prog_4_method_7_code
def yX2_grown : MethodName := ⟨RX2, "grown", "(II)I"⟩
def RX3 : String := "FeastLedger$Debts"
def TX3 : u_T := fun k => match k with
  | 0 => ("FeastLedger$Debts", "debtor", "[I", true)
  | 1 => ("FeastLedger$Debts", "creditor", "[I", true)
  | 2 => ("FeastLedger$Debts", "left", "[I", true)
  | 3 => ("FeastLedger$Debts", "due", "[I", true)
  | _ => ("FeastLedger$Debts", "size", "I", false)
def tyX3 : Nat → FieldType := fun k => match k with
  | 0 => .array .int
  | 1 => .array .int
  | 2 => .array .int
  | 3 => .array .int
  | _ => .int
abbrev wsX30 : List Cond := u_ws RX3 TX3 5
theorem nmX3 : ∀ a, a < 5 → ∀ b, b < 5 → a ≠ b → (TX3 a).2.1 ≠ (TX3 b).2.1 := by decide +kernel
theorem tyX3_ok : ∀ k, k < 5 → parseFieldDescriptor (TX3 k).2.2.1 = some (tyX3 k) := by decide +kernel
abbrev cX3_init : ByteArray := prog_5_method_1_code
def yX3_init : MethodName := ⟨RX3, "<init>", "()V"⟩
abbrev cX3_add : ByteArray := prog_5_method_2_code
def yX3_add : MethodName := ⟨RX3, "add", "(IIII)I"⟩
abbrev cX3_room : ByteArray := prog_5_method_3_code
def yX3_room : MethodName := ⟨RX3, "room", "()I"⟩
abbrev cX3_isLoan : ByteArray := prog_5_method_4_code
def yX3_isLoan : MethodName := ⟨RX3, "isLoan", "(I)Z"⟩
abbrev cX3_open : ByteArray := prog_5_method_5_code
def yX3_open : MethodName := ⟨RX3, "open", "()I"⟩
abbrev cX3_overdue : ByteArray := prog_5_method_6_code
def yX3_overdue : MethodName := ⟨RX3, "overdue", "(II)I"⟩
abbrev cX3_isOpenBetween : ByteArray := prog_5_method_7_code
def yX3_isOpenBetween : MethodName := ⟨RX3, "isOpenBetween", "(III)Z"⟩
abbrev cX3_owed : ByteArray := prog_5_method_8_code
def yX3_owed : MethodName := ⟨RX3, "owed", "(II)J"⟩
abbrev cX3_answer : ByteArray := prog_5_method_9_code
def yX3_answer : MethodName := ⟨RX3, "answer", "(III)I"⟩
abbrev cX3_firstToAnswer : ByteArray := prog_5_method_10_code
def yX3_firstToAnswer : MethodName := ⟨RX3, "firstToAnswer", "(II)I"⟩
abbrev cX3_turn : ByteArray := prog_5_method_11_code
def yX3_turn : MethodName := ⟨RX3, "turn", "(I)I"⟩
abbrev cX3_inherit : ByteArray := prog_5_method_12_code
def yX3_inherit : MethodName := ⟨RX3, "inherit", "(II)I"⟩
def RX4 : String := "FeastLedger$Gathering"
def TX4 : u_T := fun k => match k with
  | 0 => ("FeastLedger$Gathering", "stock", "[J", true)
  | 1 => ("FeastLedger$Gathering", "open", "[[J", true)
  | 2 => ("FeastLedger$Gathering", "found", "[Z", true)
  | 3 => ("FeastLedger$Gathering", "next", "[I", true)
  | _ => ("FeastLedger$Gathering", "queue", "[I", true)
def tyX4 : Nat → FieldType := fun k => match k with
  | 0 => .array .long
  | 1 => .array (.array .long)
  | 2 => .array .boolean
  | 3 => .array .int
  | _ => .array .int
abbrev wsX40 : List Cond := u_ws RX4 TX4 5
theorem nmX4 : ∀ a, a < 5 → ∀ b, b < 5 → a ≠ b → (TX4 a).2.1 ≠ (TX4 b).2.1 := by decide +kernel
theorem tyX4_ok : ∀ k, k < 5 → parseFieldDescriptor (TX4 k).2.2.1 = some (tyX4 k) := by decide +kernel
abbrev cX4_init : ByteArray := prog_6_method_1_code
def yX4_init : MethodName := ⟨RX4, "<init>", "()V"⟩
abbrev cX4_callIn : ByteArray := prog_6_method_2_code
def yX4_callIn : MethodName := ⟨RX4, "callIn", "(LFeastLedger$Chiefs;LFeastLedger$Debts;I)V"⟩
abbrev cX4_most : ByteArray := prog_6_method_3_code
def yX4_most : MethodName := ⟨RX4, "most", "(I)J"⟩
abbrev cX4_side : ByteArray := prog_6_method_4_code
def yX4_side : MethodName := ⟨RX4, "side", "()I"⟩
abbrev cX4_nearestGiver : ByteArray := prog_6_method_5_code
def yX4_nearestGiver : MethodName := ⟨RX4, "nearestGiver", "(I)I"⟩
abbrev cX4_handOn : ByteArray := prog_6_method_6_code
def yX4_handOn : MethodName := ⟨RX4, "handOn", "(II)J"⟩
def RX5 : String := "FeastLedger$Tape"
def TX5 : u_T := fun k => match k with
  | 0 => ("FeastLedger$Tape", "bytes", "[B", true)
  | _ => ("FeastLedger$Tape", "length", "I", false)
def tyX5 : Nat → FieldType := fun k => match k with
  | 0 => .array .byte
  | _ => .int
abbrev wsX50 : List Cond := u_ws RX5 TX5 2
theorem nmX5 : ∀ a, a < 2 → ∀ b, b < 2 → a ≠ b → (TX5 a).2.1 ≠ (TX5 b).2.1 := by decide +kernel
theorem tyX5_ok : ∀ k, k < 2 → parseFieldDescriptor (TX5 k).2.2.1 = some (tyX5 k) := by decide +kernel
abbrev cX5_init : ByteArray := prog_7_method_1_code
def yX5_init : MethodName := ⟨RX5, "<init>", "()V"⟩
abbrev cX5_append : ByteArray := prog_7_method_2_code
def yX5_append : MethodName := ⟨RX5, "append", "(I)V"⟩
def RX6 : String := "FeastLedger$TextReader"
def TX6 : u_T := fun k => match k with
  | 0 => ("FeastLedger$TextReader", "text", "[B", true)
  | 1 => ("FeastLedger$TextReader", "length", "I", false)
  | 2 => ("FeastLedger$TextReader", "at", "I", false)
  | 3 => ("FeastLedger$TextReader", "fault", "I", false)
  | 4 => ("FeastLedger$TextReader", "faultPlace", "I", false)
  | 5 => ("FeastLedger$TextReader", "returnTimes", "I", false)
  | 6 => ("FeastLedger$TextReader", "returnBy", "I", false)
  | 7 => ("FeastLedger$TextReader", "within", "I", false)
  | 8 => ("FeastLedger$TextReader", "loanTimes", "I", false)
  | 9 => ("FeastLedger$TextReader", "loanBy", "I", false)
  | _ => ("FeastLedger$TextReader", "witness", "I", false)
def tyX6 : Nat → FieldType := fun k => match k with
  | 0 => .array .byte
  | 1 => .int
  | 2 => .int
  | 3 => .int
  | 4 => .int
  | 5 => .int
  | 6 => .int
  | 7 => .int
  | 8 => .int
  | 9 => .int
  | _ => .int
abbrev wsX60 : List Cond := u_ws RX6 TX6 11
theorem nmX6 : ∀ a, a < 11 → ∀ b, b < 11 → a ≠ b → (TX6 a).2.1 ≠ (TX6 b).2.1 := by decide +kernel
theorem tyX6_ok : ∀ k, k < 11 → parseFieldDescriptor (TX6 k).2.2.1 = some (tyX6 k) := by decide +kernel
abbrev cX6_init : ByteArray := prog_8_method_1_code
def yX6_init : MethodName := ⟨RX6, "<init>", "()V"⟩
abbrev cX6_read : ByteArray := prog_8_method_2_code
def yX6_read : MethodName := ⟨RX6, "read", "([BI)V"⟩
abbrev cX6_readClause : ByteArray := prog_8_method_3_code
def yX6_readClause : MethodName := ⟨RX6, "readClause", "(I)V"⟩
abbrev cX6_readReturn : ByteArray := prog_8_method_4_code
def yX6_readReturn : MethodName := ⟨RX6, "readReturn", "()V"⟩
abbrev cX6_readLoan : ByteArray := prog_8_method_5_code
def yX6_readLoan : MethodName := ⟨RX6, "readLoan", "()V"⟩
abbrev cX6_readWithin : ByteArray := prog_8_method_6_code
def yX6_readWithin : MethodName := ⟨RX6, "readWithin", "()V"⟩
abbrev cX6_readSign : ByteArray := prog_8_method_7_code
def yX6_readSign : MethodName := ⟨RX6, "readSign", "(C)V"⟩
abbrev cX6_readNumber : ByteArray := prog_8_method_8_code
def yX6_readNumber : MethodName := ⟨RX6, "readNumber", "(I)I"⟩
abbrev cX6_skipBlanks : ByteArray := prog_8_method_9_code
def yX6_skipBlanks : MethodName := ⟨RX6, "skipBlanks", "()V"⟩
abbrev cX6_skipLetters : ByteArray := prog_8_method_10_code
def yX6_skipLetters : MethodName := ⟨RX6, "skipLetters", "()V"⟩
abbrev cX6_spells : ByteArray := prog_8_method_11_code
def yX6_spells : MethodName := ⟨RX6, "spells", "(ILjava/lang/String;)Z"⟩
abbrev cX6_mark : ByteArray := prog_8_method_12_code
def yX6_mark : MethodName := ⟨RX6, "mark", "(II)V"⟩
def RX7 : String := "FeastLedger"
def TX7 : u_T := fun k => match k with
  | 0 => ("FeastLedger", "tape", "LFeastLedger$Tape;", true)
  | 1 => ("FeastLedger", "reader", "LFeastLedger$TextReader;", true)
  | 2 => ("FeastLedger", "customs", "LFeastLedger$Customs;", true)
  | 3 => ("FeastLedger", "chiefs", "LFeastLedger$Chiefs;", true)
  | 4 => ("FeastLedger", "debts", "LFeastLedger$Debts;", true)
  | 5 => ("FeastLedger", "coppers", "LFeastLedger$Coppers;", true)
  | 6 => ("FeastLedger", "gathering", "LFeastLedger$Gathering;", true)
  | 7 => ("FeastLedger", "now", "I", false)
  | _ => ("FeastLedger", "faultPlace", "I", false)
def tyX7 : Nat → FieldType := fun k => match k with
  | 0 => .object "FeastLedger$Tape"
  | 1 => .object "FeastLedger$TextReader"
  | 2 => .object "FeastLedger$Customs"
  | 3 => .object "FeastLedger$Chiefs"
  | 4 => .object "FeastLedger$Debts"
  | 5 => .object "FeastLedger$Coppers"
  | 6 => .object "FeastLedger$Gathering"
  | 7 => .int
  | _ => .int
abbrev wsX70 : List Cond := u_ws RX7 TX7 9
theorem nmX7 : ∀ a, a < 9 → ∀ b, b < 9 → a ≠ b → (TX7 a).2.1 ≠ (TX7 b).2.1 := by decide +kernel
theorem tyX7_ok : ∀ k, k < 9 → parseFieldDescriptor (TX7 k).2.2.1 = some (tyX7 k) := by decide +kernel
abbrev cX7_init : ByteArray := prog_1_method_1_code
def yX7_init : MethodName := ⟨RX7, "<init>", "()V"⟩
abbrev cX7_chief : ByteArray := prog_1_method_2_code
def yX7_chief : MethodName := ⟨RX7, "chief", "(I)I"⟩
abbrev cX7_feed : ByteArray := prog_1_method_3_code
def yX7_feed : MethodName := ⟨RX7, "feed", "(IIIII)I"⟩
abbrev cX7_custom : ByteArray := prog_1_method_4_code
def yX7_custom : MethodName := ⟨RX7, "custom", "(II)I"⟩
abbrev cX7_fault : ByteArray := prog_1_method_5_code
def yX7_fault : MethodName := ⟨RX7, "fault", "()I"⟩
abbrev cX7_force : ByteArray := prog_1_method_6_code
def yX7_force : MethodName := ⟨RX7, "force", "(I)I"⟩
abbrev cX7_give : ByteArray := prog_1_method_7_code
def yX7_give : MethodName := ⟨RX7, "give", "(III)I"⟩
abbrev cX7_lend : ByteArray := prog_1_method_8_code
def yX7_lend : MethodName := ⟨RX7, "lend", "(III)I"⟩
abbrev cX7_copper : ByteArray := prog_1_method_9_code
def yX7_copper : MethodName := ⟨RX7, "copper", "(II)I"⟩
abbrev cX7_pass : ByteArray := prog_1_method_10_code
def yX7_pass : MethodName := ⟨RX7, "pass", "(II)I"⟩
abbrev cX7_breaks : ByteArray := prog_1_method_11_code
def yX7_breaks : MethodName := ⟨RX7, "breaks", "(I)I"⟩
abbrev cX7_copperTold : ByteArray := prog_1_method_12_code
def yX7_copperTold : MethodName := ⟨RX7, "copperTold", "(II)I"⟩
abbrev cX7_feast : ByteArray := prog_1_method_13_code
def yX7_feast : MethodName := ⟨RX7, "feast", "(IIII)I"⟩
abbrev cX7_died : ByteArray := prog_1_method_14_code
def yX7_died : MethodName := ⟨RX7, "died", "(II)I"⟩
abbrev cX7_wait : ByteArray := prog_1_method_15_code
def yX7_wait : MethodName := ⟨RX7, "wait", "(I)I"⟩
abbrev cX7_debt : ByteArray := prog_1_method_16_code
def yX7_debt : MethodName := ⟨RX7, "debt", "(II)I"⟩
abbrev cX7_late : ByteArray := prog_1_method_17_code
def yX7_late : MethodName := ⟨RX7, "late", "(I)I"⟩
abbrev cX7_about : ByteArray := prog_1_method_18_code
def yX7_about : MethodName := ⟨RX7, "about", "(II)I"⟩
abbrev cX7_fame : ByteArray := prog_1_method_19_code
def yX7_fame : MethodName := ⟨RX7, "fame", "(I)J"⟩
abbrev cX7_gather : ByteArray := prog_1_method_20_code
def yX7_gather : MethodName := ⟨RX7, "gather", "(II)J"⟩
abbrev cX7_hold : ByteArray := prog_1_method_21_code
def yX7_hold : MethodName := ⟨RX7, "hold", "(II)I"⟩
abbrev cX7_count : ByteArray := prog_1_method_22_code
def yX7_count : MethodName := ⟨RX7, "count", "(I)I"⟩
abbrev cX7_isIn : ByteArray := prog_1_method_23_code
def yX7_isIn : MethodName := ⟨RX7, "isIn", "(II)Z"⟩
abbrev cX7_checkChief : ByteArray := prog_1_method_24_code
def yX7_checkChief : MethodName := ⟨RX7, "checkChief", "(I)V"⟩
abbrev cX7_checkLives : ByteArray := prog_1_method_25_code
def yX7_checkLives : MethodName := ⟨RX7, "checkLives", "(I)V"⟩
abbrev cX7_checkCopper : ByteArray := prog_1_method_26_code
def yX7_checkCopper : MethodName := ⟨RX7, "checkCopper", "(I)V"⟩
abbrev cX7_checkHandingOver : ByteArray := prog_1_method_27_code
def yX7_checkHandingOver : MethodName := ⟨RX7, "checkHandingOver", "(III)V"⟩
abbrev cX7_checkFeast : ByteArray := prog_1_method_28_code
def yX7_checkFeast : MethodName := ⟨RX7, "checkFeast", "(IIII)V"⟩
abbrev cX7_debtsMadeBy : ByteArray := prog_1_method_29_code
def yX7_debtsMadeBy : MethodName := ⟨RX7, "debtsMadeBy", "(III)I"⟩
abbrev cX7_debtsMadeByFeast : ByteArray := prog_1_method_30_code
def yX7_debtsMadeByFeast : MethodName := ⟨RX7, "debtsMadeByFeast", "(III)I"⟩
abbrev cX7_recordGiven : ByteArray := prog_1_method_31_code
def yX7_recordGiven : MethodName := ⟨RX7, "recordGiven", "(III)I"⟩
abbrev cX7_growLoans : ByteArray := prog_1_method_32_code
def yX7_growLoans : MethodName := ⟨RX7, "growLoans", "()V"⟩
def RX8 : String := "FeastLedgerModel"
def TX8 : u_T := fun k => match k with
  | 0 => ("FeastLedgerModel", "thrown", "I", false)
  | 1 => ("FeastLedgerModel", "blankets", "[I", true)
  | 2 => ("FeastLedgerModel", "fames", "[J", true)
  | 3 => ("FeastLedgerModel", "isDead", "[Z", true)
  | 4 => ("FeastLedgerModel", "chiefs", "I", false)
  | 5 => ("FeastLedgerModel", "now", "I", false)
  | 6 => ("FeastLedgerModel", "tape", "[B", true)
  | 7 => ("FeastLedgerModel", "taped", "I", false)
  | 8 => ("FeastLedgerModel", "size", "I", false)
  | 9 => ("FeastLedgerModel", "at", "I", false)
  | 10 => ("FeastLedgerModel", "fault", "I", false)
  | 11 => ("FeastLedgerModel", "place", "I", false)
  | 12 => ("FeastLedgerModel", "since", "[I", true)
  | 13 => ("FeastLedgerModel", "terms", "[I", true)
  | 14 => ("FeastLedgerModel", "customs", "I", false)
  | 15 => ("FeastLedgerModel", "owes", "[I", true)
  | 16 => ("FeastLedgerModel", "whom", "[I", true)
  | 17 => ("FeastLedgerModel", "left", "[J", true)
  | 18 => ("FeastLedgerModel", "isLoan", "[Z", true)
  | 19 => ("FeastLedgerModel", "due", "[I", true)
  | 20 => ("FeastLedgerModel", "debts", "I", false)
  | 21 => ("FeastLedgerModel", "owner", "[I", true)
  | 22 => ("FeastLedgerModel", "worth", "[I", true)
  | 23 => ("FeastLedgerModel", "first", "[I", true)
  | 24 => ("FeastLedgerModel", "coppers", "I", false)
  | 25 => ("FeastLedgerModel", "can", "[J", true)
  | 26 => ("FeastLedgerModel", "has", "[J", true)
  | 27 => ("FeastLedgerModel", "to", "[I", true)
  | 28 => ("FeastLedgerModel", "isSeen", "[Z", true)
  | 29 => ("FeastLedgerModel", "row", "[I", true)
  | _ => ("FeastLedgerModel", "seen", "I", false)
def tyX8 : Nat → FieldType := fun k => match k with
  | 0 => .int
  | 1 => .array .int
  | 2 => .array .long
  | 3 => .array .boolean
  | 4 => .int
  | 5 => .int
  | 6 => .array .byte
  | 7 => .int
  | 8 => .int
  | 9 => .int
  | 10 => .int
  | 11 => .int
  | 12 => .array .int
  | 13 => .array .int
  | 14 => .int
  | 15 => .array .int
  | 16 => .array .int
  | 17 => .array .long
  | 18 => .array .boolean
  | 19 => .array .int
  | 20 => .int
  | 21 => .array .int
  | 22 => .array .int
  | 23 => .array .int
  | 24 => .int
  | 25 => .array .long
  | 26 => .array .long
  | 27 => .array .int
  | 28 => .array .boolean
  | 29 => .array .int
  | _ => .int
abbrev wsX80 : List Cond := u_ws RX8 TX8 31
theorem nmX8 : ∀ a, a < 31 → ∀ b, b < 31 → a ≠ b → (TX8 a).2.1 ≠ (TX8 b).2.1 := by decide +kernel
theorem tyX8_ok : ∀ k, k < 31 → parseFieldDescriptor (TX8 k).2.2.1 = some (tyX8 k) := by decide +kernel
abbrev cX8_init : ByteArray := prog_10_method_1_code
def yX8_init : MethodName := ⟨RX8, "<init>", "()V"⟩
abbrev cX8_thrown : ByteArray := prog_10_method_2_code
def yX8_thrown : MethodName := ⟨RX8, "thrown", "()I"⟩
abbrev cX8_bad : ByteArray := prog_10_method_3_code
def yX8_bad : MethodName := ⟨RX8, "bad", "(ZI)Z"⟩
abbrev cX8_chief : ByteArray := prog_10_method_4_code
def yX8_chief : MethodName := ⟨RX8, "chief", "(I)I"⟩
abbrev cX8_isChief : ByteArray := prog_10_method_5_code
def yX8_isChief : MethodName := ⟨RX8, "isChief", "(I)Z"⟩
abbrev cX8_feed : ByteArray := prog_10_method_6_code
def yX8_feed : MethodName := ⟨RX8, "feed", "(IIIII)I"⟩
abbrev cX8_byteAt : ByteArray := prog_10_method_7_code
def yX8_byteAt : MethodName := ⟨RX8, "byteAt", "(I)I"⟩
abbrev cX8_blanks : ByteArray := prog_10_method_8_code
def yX8_blanks : MethodName := ⟨RX8, "blanks", "()V"⟩
abbrev cX8_isSmall : ByteArray := prog_10_method_9_code
def yX8_isSmall : MethodName := ⟨RX8, "isSmall", "(I)Z"⟩
abbrev cX8_isDigit : ByteArray := prog_10_method_10_code
def yX8_isDigit : MethodName := ⟨RX8, "isDigit", "(I)Z"⟩
abbrev cX8_wrong : ByteArray := prog_10_method_11_code
def yX8_wrong : MethodName := ⟨RX8, "wrong", "(II)V"⟩
abbrev cX8_isWord : ByteArray := prog_10_method_12_code
def yX8_isWord : MethodName := ⟨RX8, "isWord", "(Ljava/lang/String;)Z"⟩
abbrev cX8_need : ByteArray := prog_10_method_13_code
def yX8_need : MethodName := ⟨RX8, "need", "(Ljava/lang/String;)V"⟩
abbrev cX8_sign : ByteArray := prog_10_method_14_code
def yX8_sign : MethodName := ⟨RX8, "sign", "(I)V"⟩
abbrev cX8_number : ByteArray := prog_10_method_15_code
def yX8_number : MethodName := ⟨RX8, "number", "(I)I"⟩
abbrev cX8_clause : ByteArray := prog_10_method_16_code
def yX8_clause : MethodName := ⟨RX8, "clause", "(I)V"⟩
abbrev cX8_custom : ByteArray := prog_10_method_17_code
def yX8_custom : MethodName := ⟨RX8, "custom", "(II)I"⟩
abbrev cX8_fault : ByteArray := prog_10_method_18_code
def yX8_fault : MethodName := ⟨RX8, "fault", "()I"⟩
abbrev cX8_forceOf : ByteArray := prog_10_method_19_code
def yX8_forceOf : MethodName := ⟨RX8, "forceOf", "(I)I"⟩
abbrev cX8_force : ByteArray := prog_10_method_20_code
def yX8_force : MethodName := ⟨RX8, "force", "(I)I"⟩
abbrev cX8_term : ByteArray := prog_10_method_21_code
def yX8_term : MethodName := ⟨RX8, "term", "(I)I"⟩
abbrev cX8_owe : ByteArray := prog_10_method_22_code
def yX8_owe : MethodName := ⟨RX8, "owe", "(IIJZI)V"⟩
abbrev cX8_allOwed : ByteArray := prog_10_method_23_code
def yX8_allOwed : MethodName := ⟨RX8, "allOwed", "(II)J"⟩
abbrev cX8_madeOf : ByteArray := prog_10_method_24_code
def yX8_madeOf : MethodName := ⟨RX8, "madeOf", "(IIJ)J"⟩
abbrev cX8_next : ByteArray := prog_10_method_25_code
def yX8_next : MethodName := ⟨RX8, "next", "(II)I"⟩
abbrev cX8_gives : ByteArray := prog_10_method_26_code
def yX8_gives : MethodName := ⟨RX8, "gives", "(III)I"⟩
abbrev cX8_isPair : ByteArray := prog_10_method_27_code
def yX8_isPair : MethodName := ⟨RX8, "isPair", "(III)Z"⟩
abbrev cX8_give : ByteArray := prog_10_method_28_code
def yX8_give : MethodName := ⟨RX8, "give", "(III)I"⟩
abbrev cX8_lend : ByteArray := prog_10_method_29_code
def yX8_lend : MethodName := ⟨RX8, "lend", "(III)I"⟩
abbrev cX8_copper : ByteArray := prog_10_method_30_code
def yX8_copper : MethodName := ⟨RX8, "copper", "(II)I"⟩
abbrev cX8_isCopper : ByteArray := prog_10_method_31_code
def yX8_isCopper : MethodName := ⟨RX8, "isCopper", "(I)Z"⟩
abbrev cX8_pass : ByteArray := prog_10_method_32_code
def yX8_pass : MethodName := ⟨RX8, "pass", "(II)I"⟩
abbrev cX8_breaks : ByteArray := prog_10_method_33_code
def yX8_breaks : MethodName := ⟨RX8, "breaks", "(I)I"⟩
abbrev cX8_copperTold : ByteArray := prog_10_method_34_code
def yX8_copperTold : MethodName := ⟨RX8, "copperTold", "(II)I"⟩
abbrev cX8_isIn : ByteArray := prog_10_method_35_code
def yX8_isIn : MethodName := ⟨RX8, "isIn", "(II)Z"⟩
abbrev cX8_feast : ByteArray := prog_10_method_36_code
def yX8_feast : MethodName := ⟨RX8, "feast", "(IIII)I"⟩
abbrev cX8_died : ByteArray := prog_10_method_37_code
def yX8_died : MethodName := ⟨RX8, "died", "(II)I"⟩
abbrev cX8_wait : ByteArray := prog_10_method_38_code
def yX8_wait : MethodName := ⟨RX8, "wait", "(I)I"⟩
abbrev cX8_debt : ByteArray := prog_10_method_39_code
def yX8_debt : MethodName := ⟨RX8, "debt", "(II)I"⟩
abbrev cX8_late : ByteArray := prog_10_method_40_code
def yX8_late : MethodName := ⟨RX8, "late", "(I)I"⟩
abbrev cX8_about : ByteArray := prog_10_method_41_code
def yX8_about : MethodName := ⟨RX8, "about", "(II)I"⟩
abbrev cX8_fame : ByteArray := prog_10_method_42_code
def yX8_fame : MethodName := ⟨RX8, "fame", "(I)J"⟩
abbrev cX8_ways : ByteArray := prog_10_method_43_code
def yX8_ways : MethodName := ⟨RX8, "ways", "(I)V"⟩
abbrev cX8_gathers : ByteArray := prog_10_method_44_code
def yX8_gathers : MethodName := ⟨RX8, "gathers", "(II)J"⟩
abbrev cX8_gather : ByteArray := prog_10_method_45_code
def yX8_gather : MethodName := ⟨RX8, "gather", "(II)J"⟩
abbrev cX8_hold : ByteArray := prog_10_method_46_code
def yX8_hold : MethodName := ⟨RX8, "hold", "(II)I"⟩
abbrev cX8_count : ByteArray := prog_10_method_47_code
def yX8_count : MethodName := ⟨RX8, "count", "(I)I"⟩
def RJ6 : String := "java/lang/Integer"
def TJ6 : u_T := fun k => match k with
  | _ => ("", "", "", false)
def tyJ6 : Nat → FieldType := fun k => match k with
  | _ => .int
abbrev wsJ60 : List Cond := u_ws RJ6 TJ6 0
theorem nmJ6 : ∀ a, a < 0 → ∀ b, b < 0 → a ≠ b → (TJ6 a).2.1 ≠ (TJ6 b).2.1 := by decide +kernel
theorem tyJ6_ok : ∀ k, k < 0 → parseFieldDescriptor (TJ6 k).2.2.1 = some (tyJ6 k) := by decide +kernel
abbrev cJ6_bitCount_0f7a4 : ByteArray := prog_15_method_49_code
def yJ6_bitCount_0f7a4 : MethodName := ⟨RJ6, "bitCount", "(I)I"⟩
def RJ9 : String := "java/lang/Math"
def TJ9 : u_T := fun k => match k with
  | _ => ("", "", "", false)
def tyJ9 : Nat → FieldType := fun k => match k with
  | _ => .int
abbrev wsJ90 : List Cond := u_ws RJ9 TJ9 0
theorem nmJ9 : ∀ a, a < 0 → ∀ b, b < 0 → a ≠ b → (TJ9 a).2.1 ≠ (TJ9 b).2.1 := by decide +kernel
theorem tyJ9_ok : ∀ k, k < 0 → parseFieldDescriptor (TJ9 k).2.2.1 = some (tyJ9 k) := by decide +kernel
abbrev cJ9_max_7cf53 : ByteArray := prog_16_method_65_code
def yJ9_max_7cf53 : MethodName := ⟨RJ9, "max", "(II)I"⟩
abbrev cJ9_min_7cf53 : ByteArray := prog_16_method_69_code
def yJ9_min_7cf53 : MethodName := ⟨RJ9, "min", "(II)I"⟩
abbrev cJ9_min_f86c9 : ByteArray := prog_16_method_70_code
def yJ9_min_f86c9 : MethodName := ⟨RJ9, "min", "(JJ)J"⟩
def RJ0 : String := "java/lang/String"
def TJ0 : u_T := fun k => match k with
  | _ => ("", "", "", false)
def tyJ0 : Nat → FieldType := fun k => match k with
  | _ => .int
abbrev wsJ00 : List Cond := u_ws RJ0 TJ0 0
theorem nmJ0 : ∀ a, a < 0 → ∀ b, b < 0 → a ≠ b → (TJ0 a).2.1 ≠ (TJ0 b).2.1 := by decide +kernel
theorem tyJ0_ok : ∀ k, k < 0 → parseFieldDescriptor (TJ0 k).2.2.1 = some (tyJ0 k) := by decide +kernel
abbrev cJ0_length_8abf5 : ByteArray := prog_18_method_54_code
def yJ0_length_8abf5 : MethodName := ⟨RJ0, "length", "()I"⟩
abbrev cJ0_charAt_5068e : ByteArray := prog_18_method_56_code
def yJ0_charAt_5068e : MethodName := ⟨RJ0, "charAt", "(I)C"⟩
abbrev cJ0_coder_7d493 : ByteArray := prog_18_method_152_code
def yJ0_coder_7d493 : MethodName := ⟨RJ0, "coder", "()B"⟩
abbrev cJ0_isLatin1_aae02 : ByteArray := prog_18_method_154_code
def yJ0_isLatin1_aae02 : MethodName := ⟨RJ0, "isLatin1", "()Z"⟩
abbrev cJ0_checkIndex_df160 : ByteArray := prog_18_method_155_code
def yJ0_checkIndex_df160 : MethodName := ⟨RJ0, "checkIndex", "(II)V"⟩
def RJ1 : String := "java/lang/StringLatin1"
def TJ1 : u_T := fun k => match k with
  | _ => ("", "", "", false)
def tyJ1 : Nat → FieldType := fun k => match k with
  | _ => .int
abbrev wsJ10 : List Cond := u_ws RJ1 TJ1 0
theorem nmJ1 : ∀ a, a < 0 → ∀ b, b < 0 → a ≠ b → (TJ1 a).2.1 ≠ (TJ1 b).2.1 := by decide +kernel
theorem tyJ1_ok : ∀ k, k < 0 → parseFieldDescriptor (TJ1 k).2.2.1 = some (tyJ1 k) := by decide +kernel
abbrev cJ1_charAt_3b067 : ByteArray := prog_19_method_2_code
def yJ1_charAt_3b067 : MethodName := ⟨RJ1, "charAt", "([BI)C"⟩
def RJ2 : String := "java/lang/StringUTF16"
def TJ2 : u_T := fun k => match k with
  | _ => ("", "", "", false)
def tyJ2 : Nat → FieldType := fun k => match k with
  | _ => .int
abbrev wsJ20 : List Cond := u_ws RJ2 TJ2 0
theorem nmJ2 : ∀ a, a < 0 → ∀ b, b < 0 → a ≠ b → (TJ2 a).2.1 ≠ (TJ2 b).2.1 := by decide +kernel
theorem tyJ2_ok : ∀ k, k < 0 → parseFieldDescriptor (TJ2 k).2.2.1 = some (tyJ2 k) := by decide +kernel
abbrev cJ2_getChar_3b067 : ByteArray := prog_20_method_5_code
def yJ2_getChar_3b067 : MethodName := ⟨RJ2, "getChar", "([BI)C"⟩
abbrev cJ2_length_9d52b : ByteArray := prog_20_method_6_code
def yJ2_length_9d52b : MethodName := ⟨RJ2, "length", "([B)I"⟩
abbrev cJ2_charAt_3b067 : ByteArray := prog_20_method_83_code
def yJ2_charAt_3b067 : MethodName := ⟨RJ2, "charAt", "([BI)C"⟩
abbrev cJ2_checkIndex_2214a : ByteArray := prog_20_method_91_code
def yJ2_checkIndex_2214a : MethodName := ⟨RJ2, "checkIndex", "(I[B)V"⟩
def RJ10 : String := "java/lang/System"
def TJ10 : u_T := fun k => match k with
  | _ => ("", "", "", false)
def tyJ10 : Nat → FieldType := fun k => match k with
  | _ => .int
abbrev wsJ100 : List Cond := u_ws RJ10 TJ10 0
theorem nmJ10 : ∀ a, a < 0 → ∀ b, b < 0 → a ≠ b → (TJ10 a).2.1 ≠ (TJ10 b).2.1 := by decide +kernel
theorem tyJ10_ok : ∀ k, k < 0 → parseFieldDescriptor (TJ10 k).2.2.1 = some (tyJ10 k) := by decide +kernel
def RJ3 : String := "jdk/internal/util/Preconditions"
def TJ3 : u_T := fun k => match k with
  | _ => ("", "", "", false)
def tyJ3 : Nat → FieldType := fun k => match k with
  | _ => .int
abbrev wsJ30 : List Cond := u_ws RJ3 TJ3 0
theorem nmJ3 : ∀ a, a < 0 → ∀ b, b < 0 → a ≠ b → (TJ3 a).2.1 ≠ (TJ3 b).2.1 := by decide +kernel
theorem tyJ3_ok : ∀ k, k < 0 → parseFieldDescriptor (TJ3 k).2.2.1 = some (tyJ3 k) := by decide +kernel
abbrev cJ3_checkIndex_8e157 : ByteArray := prog_23_method_11_code
def yJ3_checkIndex_8e157 : MethodName := ⟨RJ3, "checkIndex", "(IILjava/util/function/BiFunction;)I"⟩
def RL : String := "FeastLedgerLaw"
abbrev cL_chief : ByteArray := method_3_code
def yL_chief : MethodName := ⟨RL, "chief", "(LFeastLedger;I[J)I"⟩
abbrev cL_custom : ByteArray := method_4_code
def yL_custom : MethodName := ⟨RL, "custom", "(LFeastLedger;II[J)I"⟩
abbrev cL_give : ByteArray := method_5_code
def yL_give : MethodName := ⟨RL, "give", "(LFeastLedger;III[J)I"⟩
abbrev cL_lend : ByteArray := method_6_code
def yL_lend : MethodName := ⟨RL, "lend", "(LFeastLedger;III[J)I"⟩
abbrev cL_copper : ByteArray := method_7_code
def yL_copper : MethodName := ⟨RL, "copper", "(LFeastLedger;II[J)I"⟩
abbrev cL_pass : ByteArray := method_8_code
def yL_pass : MethodName := ⟨RL, "pass", "(LFeastLedger;II[J)I"⟩
abbrev cL_breaks : ByteArray := method_9_code
def yL_breaks : MethodName := ⟨RL, "breaks", "(LFeastLedger;I[J)I"⟩
abbrev cL_copperTold : ByteArray := method_10_code
def yL_copperTold : MethodName := ⟨RL, "copperTold", "(LFeastLedger;II[J)I"⟩
abbrev cL_feast : ByteArray := method_11_code
def yL_feast : MethodName := ⟨RL, "feast", "(LFeastLedger;IIII[J)I"⟩
abbrev cL_died : ByteArray := method_12_code
def yL_died : MethodName := ⟨RL, "died", "(LFeastLedger;II[J)I"⟩
abbrev cL_wait : ByteArray := method_13_code
def yL_wait : MethodName := ⟨RL, "wait", "(LFeastLedger;I[J)I"⟩
abbrev cL_debt : ByteArray := method_14_code
def yL_debt : MethodName := ⟨RL, "debt", "(LFeastLedger;II[J)I"⟩
abbrev cL_about : ByteArray := method_15_code
def yL_about : MethodName := ⟨RL, "about", "(LFeastLedger;II[J)I"⟩
abbrev cL_fame : ByteArray := method_16_code
def yL_fame : MethodName := ⟨RL, "fame", "(LFeastLedger;I[J)I"⟩
abbrev cL_gather : ByteArray := method_17_code
def yL_gather : MethodName := ⟨RL, "gather", "(LFeastLedger;II[J)I"⟩
abbrev cL_hold : ByteArray := method_18_code
def yL_hold : MethodName := ⟨RL, "hold", "(LFeastLedger;II[J)I"⟩
abbrev cL_law : ByteArray := code
def yL_law : MethodName := ⟨RL, "law", "([I)Z"⟩
def wsX0_init : List Cond := .code yX0_init cX0_init 1 none :: ([.methodLink RX0 3 objectInit, .instanceMethod objectInit, .code objectInit ⟨#[0xb1]⟩ 1 none, .arrayClass .int, .fieldLink RX0 9 "FeastLedger$Chiefs" "blankets" "[I", .arrayClass .long, .fieldLink RX0 15 "FeastLedger$Chiefs" "fame" "[J", .arrayClass .boolean, .fieldLink RX0 19 "FeastLedger$Chiefs" "lives" "[Z", .fieldLink RX0 23 "FeastLedger$Chiefs" "size" "I"] ++ wsX00)
def wsX0_add : List Cond := .code yX0_add cX0_add 2 (some .int) :: ([.fieldLink RX0 9 "FeastLedger$Chiefs" "blankets" "[I", .fieldLink RX0 23 "FeastLedger$Chiefs" "size" "I", .fieldLink RX0 19 "FeastLedger$Chiefs" "lives" "[Z"] ++ wsX00)
def wsX0_moveBlankets : List Cond := .code yX0_moveBlankets cX0_moveBlankets 4 none :: ([.fieldLink RX0 9 "FeastLedger$Chiefs" "blankets" "[I"] ++ wsX00)
def wsX0_placeInRank : List Cond := .code yX0_placeInRank cX0_placeInRank 5 (some .int) :: ([.fieldLink RX0 19 "FeastLedger$Chiefs" "lives" "[Z", .fieldLink RX0 23 "FeastLedger$Chiefs" "size" "I", .fieldLink RX0 15 "FeastLedger$Chiefs" "fame" "[J"] ++ wsX00)
def wsX1_init : List Cond := .code yX1_init cX1_init 1 none :: ([.methodLink RX1 3 objectInit, .instanceMethod objectInit, .code objectInit ⟨#[0xb1]⟩ 1 none, .arrayClass .int, .fieldLink RX1 9 "FeastLedger$Coppers" "owner" "[I", .fieldLink RX1 15 "FeastLedger$Coppers" "firstWorth" "[I", .fieldLink RX1 18 "FeastLedger$Coppers" "worth" "[I", .fieldLink RX1 21 "FeastLedger$Coppers" "size" "I"] ++ wsX10)
def wsX1_add : List Cond := .code yX1_add cX1_add 3 (some .int) :: ([.fieldLink RX1 9 "FeastLedger$Coppers" "owner" "[I", .fieldLink RX1 21 "FeastLedger$Coppers" "size" "I", .fieldLink RX1 15 "FeastLedger$Coppers" "firstWorth" "[I", .fieldLink RX1 18 "FeastLedger$Coppers" "worth" "[I"] ++ wsX10)
def wsX1_breakOff : List Cond := .code yX1_breakOff cX1_breakOff 3 (some .int) :: ([.fieldLink RX1 15 "FeastLedger$Coppers" "firstWorth" "[I", .methodLink RX1 25 Lib.Math.max.name, .static Lib.Math.max.name, .initialized "java/lang/Math", .code Lib.Math.max.name Lib.Math.max.code 2 (some .int), .fieldLink RX1 18 "FeastLedger$Coppers" "worth" "[I"] ++ wsX10)
def wsX1_inherit : List Cond := .code yX1_inherit cX1_inherit 4 none :: ([.fieldLink RX1 21 "FeastLedger$Coppers" "size" "I", .fieldLink RX1 9 "FeastLedger$Coppers" "owner" "[I"] ++ wsX10)
def wsX2_init : List Cond := .code yX2_init cX2_init 1 none :: ([.methodLink RX2 3 objectInit, .instanceMethod objectInit, .code objectInit ⟨#[0xb1]⟩ 1 none, .arrayClass .int, .fieldLink RX2 9 "FeastLedger$Customs" "fromYear" "[I", .fieldLink RX2 15 "FeastLedger$Customs" "returnTimes" "[I", .fieldLink RX2 18 "FeastLedger$Customs" "returnBy" "[I", .fieldLink RX2 21 "FeastLedger$Customs" "within" "[I", .fieldLink RX2 24 "FeastLedger$Customs" "loanTimes" "[I", .fieldLink RX2 27 "FeastLedger$Customs" "loanBy" "[I", .fieldLink RX2 30 "FeastLedger$Customs" "witness" "[I", .fieldLink RX2 33 "FeastLedger$Customs" "size" "I"] ++ wsX20)
def wsX2_add : List Cond := .code yX2_add cX2_add 3 (some .int) :: ([.fieldLink RX2 9 "FeastLedger$Customs" "fromYear" "[I", .fieldLink RX2 33 "FeastLedger$Customs" "size" "I", .fieldLink RX2 15 "FeastLedger$Customs" "returnTimes" "[I", .fieldLink RX2 37 "FeastLedger$TextReader" "returnTimes" "I", .fieldLink RX2 18 "FeastLedger$Customs" "returnBy" "[I", .fieldLink RX2 41 "FeastLedger$TextReader" "returnBy" "I", .fieldLink RX2 21 "FeastLedger$Customs" "within" "[I", .fieldLink RX2 43 "FeastLedger$TextReader" "within" "I", .fieldLink RX2 24 "FeastLedger$Customs" "loanTimes" "[I", .fieldLink RX2 45 "FeastLedger$TextReader" "loanTimes" "I", .fieldLink RX2 27 "FeastLedger$Customs" "loanBy" "[I", .fieldLink RX2 47 "FeastLedger$TextReader" "loanBy" "I", .fieldLink RX2 30 "FeastLedger$Customs" "witness" "[I", .fieldLink RX2 49 "FeastLedger$TextReader" "witness" "I"] ++ wsX20 ++ wsX60)
def wsX2_inForce : List Cond := .code yX2_inForce cX2_inForce 4 (some .int) :: ([.fieldLink RX2 33 "FeastLedger$Customs" "size" "I", .fieldLink RX2 9 "FeastLedger$Customs" "fromYear" "[I"] ++ wsX20)
def wsX2_witnessShare : List Cond := .code yX2_witnessShare cX2_witnessShare 2 (some .int) :: ([.fieldLink RX2 30 "FeastLedger$Customs" "witness" "[I"] ++ wsX20)
def wsX2_yearsToAnswer : List Cond := .code yX2_yearsToAnswer cX2_yearsToAnswer 2 (some .int) :: ([.fieldLink RX2 21 "FeastLedger$Customs" "within" "[I"] ++ wsX20)
def wsX2_askedFor : List Cond := .code yX2_askedFor cX2_askedFor 7 (some .int) :: ([.fieldLink RX2 18 "FeastLedger$Customs" "returnBy" "[I", .fieldLink RX2 15 "FeastLedger$Customs" "returnTimes" "[I", .constantLong RX2 51 (1000000000), .methodLink RX2 53 Lib.MathLoose.min_long.x, .static Lib.MathLoose.min_long.x, .initialized "java/lang/Math", .code Lib.MathLoose.min_long.x Lib.MathLoose.min_long.code 4 (some .long)] ++ wsX20)
def wsX2_grown : List Cond := .code yX2_grown cX2_grown 6 (some .int) :: ([.fieldLink RX2 27 "FeastLedger$Customs" "loanBy" "[I", .fieldLink RX2 24 "FeastLedger$Customs" "loanTimes" "[I", .constantLong RX2 51 (1000000000), .methodLink RX2 53 Lib.MathLoose.min_long.x, .static Lib.MathLoose.min_long.x, .initialized "java/lang/Math", .code Lib.MathLoose.min_long.x Lib.MathLoose.min_long.code 4 (some .long)] ++ wsX20)
def wsX3_init : List Cond := .code yX3_init cX3_init 1 none :: ([.methodLink RX3 3 objectInit, .instanceMethod objectInit, .code objectInit ⟨#[0xb1]⟩ 1 none, .arrayClass .int, .fieldLink RX3 9 "FeastLedger$Debts" "debtor" "[I", .fieldLink RX3 15 "FeastLedger$Debts" "creditor" "[I", .fieldLink RX3 18 "FeastLedger$Debts" "left" "[I", .fieldLink RX3 21 "FeastLedger$Debts" "due" "[I", .fieldLink RX3 24 "FeastLedger$Debts" "size" "I"] ++ wsX30)
def wsX3_add : List Cond := .code yX3_add cX3_add 5 (some .int) :: ([.fieldLink RX3 9 "FeastLedger$Debts" "debtor" "[I", .fieldLink RX3 24 "FeastLedger$Debts" "size" "I", .fieldLink RX3 15 "FeastLedger$Debts" "creditor" "[I", .fieldLink RX3 18 "FeastLedger$Debts" "left" "[I", .fieldLink RX3 21 "FeastLedger$Debts" "due" "[I"] ++ wsX30)
def wsX3_room : List Cond := .code yX3_room cX3_room 1 (some .int) :: ([.fieldLink RX3 24 "FeastLedger$Debts" "size" "I"] ++ wsX30)
def wsX3_isLoan : List Cond := .code yX3_isLoan cX3_isLoan 2 (some .boolean) :: ([.fieldLink RX3 21 "FeastLedger$Debts" "due" "[I"] ++ wsX30)
def wsX3_open : List Cond := .code yX3_open cX3_open 3 (some .int) :: ([.fieldLink RX3 24 "FeastLedger$Debts" "size" "I", .fieldLink RX3 18 "FeastLedger$Debts" "left" "[I"] ++ wsX30)
def wsX3_overdue : List Cond := .code yX3_overdue cX3_overdue 5 (some .int) :: ([.fieldLink RX3 24 "FeastLedger$Debts" "size" "I", .fieldLink RX3 18 "FeastLedger$Debts" "left" "[I", .fieldLink RX3 21 "FeastLedger$Debts" "due" "[I", .methodLink RX3 28 yX3_isLoan, .instanceMethod yX3_isLoan, .selects RX3 yX3_isLoan yX3_isLoan, .initialized RX3, .code yX3_isLoan cX3_isLoan 2 (some .boolean)] ++ wsX30)
def wsX3_isOpenBetween : List Cond := .code yX3_isOpenBetween cX3_isOpenBetween 4 (some .boolean) :: ([.fieldLink RX3 18 "FeastLedger$Debts" "left" "[I", .fieldLink RX3 9 "FeastLedger$Debts" "debtor" "[I", .fieldLink RX3 15 "FeastLedger$Debts" "creditor" "[I"] ++ wsX30)
def wsX3_owed : List Cond := .code yX3_owed cX3_owed 6 (some .long) :: ([.fieldLink RX3 24 "FeastLedger$Debts" "size" "I", .fieldLink RX3 18 "FeastLedger$Debts" "left" "[I", .methodLink RX3 32 yX3_isOpenBetween, .instanceMethod yX3_isOpenBetween, .selects RX3 yX3_isOpenBetween yX3_isOpenBetween, .initialized RX3, .code yX3_isOpenBetween cX3_isOpenBetween 4 (some .boolean), .fieldLink RX3 9 "FeastLedger$Debts" "debtor" "[I", .fieldLink RX3 15 "FeastLedger$Debts" "creditor" "[I"] ++ wsX30)
def wsX3_turn : List Cond := .code yX3_turn cX3_turn 2 (some .int) :: ([.constant RX3 49 (1000000), .fieldLink RX3 21 "FeastLedger$Debts" "due" "[I", .methodLink RX3 28 yX3_isLoan, .instanceMethod yX3_isLoan, .selects RX3 yX3_isLoan yX3_isLoan, .initialized RX3, .code yX3_isLoan cX3_isLoan 2 (some .boolean)] ++ wsX30)
def wsX3_firstToAnswer : List Cond := .code yX3_firstToAnswer cX3_firstToAnswer 5 (some .int) :: ([.fieldLink RX3 24 "FeastLedger$Debts" "size" "I", .methodLink RX3 32 yX3_isOpenBetween, .instanceMethod yX3_isOpenBetween, .selects RX3 yX3_isOpenBetween yX3_isOpenBetween, .initialized RX3, .code yX3_isOpenBetween cX3_isOpenBetween 4 (some .boolean), .fieldLink RX3 18 "FeastLedger$Debts" "left" "[I", .fieldLink RX3 9 "FeastLedger$Debts" "debtor" "[I", .fieldLink RX3 15 "FeastLedger$Debts" "creditor" "[I", .methodLink RX3 45 yX3_turn, .instanceMethod yX3_turn, .selects RX3 yX3_turn yX3_turn, .code yX3_turn cX3_turn 2 (some .int), .constant RX3 49 (1000000), .fieldLink RX3 21 "FeastLedger$Debts" "due" "[I", .methodLink RX3 28 yX3_isLoan, .instanceMethod yX3_isLoan, .selects RX3 yX3_isLoan yX3_isLoan, .code yX3_isLoan cX3_isLoan 2 (some .boolean)] ++ wsX30)
def wsX3_answer_r1 : List Cond := [Cond.fieldLink RX3 24 "FeastLedger$Debts" "size" "I", Cond.fieldLink RX3 18 "FeastLedger$Debts" "left" "[I", Cond.methodLink RX3 40 Lib.Math.min.name, Cond.static Lib.Math.min.name, Cond.initialized "java/lang/Math", Cond.code Lib.Math.min.name Lib.Math.min.code 2 (some .int), Cond.methodLink RX3 36 yX3_firstToAnswer, Cond.instanceMethod yX3_firstToAnswer, Cond.selects RX3 yX3_firstToAnswer yX3_firstToAnswer, Cond.initialized RX3, Cond.code yX3_firstToAnswer cX3_firstToAnswer 5 (some .int), Cond.methodLink RX3 32 yX3_isOpenBetween, Cond.instanceMethod yX3_isOpenBetween, Cond.selects RX3 yX3_isOpenBetween yX3_isOpenBetween, Cond.code yX3_isOpenBetween cX3_isOpenBetween 4 (some .boolean), Cond.fieldLink RX3 9 "FeastLedger$Debts" "debtor" "[I", Cond.fieldLink RX3 15 "FeastLedger$Debts" "creditor" "[I", Cond.methodLink RX3 45 yX3_turn, Cond.instanceMethod yX3_turn, Cond.selects RX3 yX3_turn yX3_turn, Cond.code yX3_turn cX3_turn 2 (some .int), Cond.constant RX3 49 (1000000), Cond.fieldLink RX3 21 "FeastLedger$Debts" "due" "[I", Cond.methodLink RX3 28 yX3_isLoan]
def wsX3_answer_r2 : List Cond := [Cond.instanceMethod yX3_isLoan, Cond.selects RX3 yX3_isLoan yX3_isLoan, Cond.code yX3_isLoan cX3_isLoan 2 (some .boolean)]
def wsX3_answer : List Cond := .code yX3_answer cX3_answer 8 (some .int) :: ((wsX3_answer_r1 ++ wsX3_answer_r2) ++ wsX30)
def wsX3_inherit : List Cond := .code yX3_inherit cX3_inherit 5 (some .int) :: ([.fieldLink RX3 24 "FeastLedger$Debts" "size" "I", .fieldLink RX3 18 "FeastLedger$Debts" "left" "[I", .fieldLink RX3 9 "FeastLedger$Debts" "debtor" "[I", .fieldLink RX3 15 "FeastLedger$Debts" "creditor" "[I", .methodLink RX3 32 yX3_isOpenBetween, .instanceMethod yX3_isOpenBetween, .selects RX3 yX3_isOpenBetween yX3_isOpenBetween, .initialized RX3, .code yX3_isOpenBetween cX3_isOpenBetween 4 (some .boolean)] ++ wsX30)
def wsX4_init : List Cond := .code yX4_init cX4_init 1 none :: ([.methodLink RX4 3 objectInit, .instanceMethod objectInit, .code objectInit ⟨#[0xb1]⟩ 1 none, .arrayClass .long, .fieldLink RX4 9 "FeastLedger$Gathering" "stock" "[J", .classLink RX4 15 "[[J", .fieldLink RX4 17 "FeastLedger$Gathering" "open" "[[J", .arrayClass .boolean, .fieldLink RX4 20 "FeastLedger$Gathering" "found" "[Z", .arrayClass .int, .fieldLink RX4 24 "FeastLedger$Gathering" "next" "[I", .fieldLink RX4 28 "FeastLedger$Gathering" "queue" "[I"] ++ wsX40)
def wsX4_callIn : List Cond := .code yX4_callIn cX4_callIn 6 none :: ([.fieldLink RX4 9 "FeastLedger$Gathering" "stock" "[J", .fieldLink RX4 31 "FeastLedger$Chiefs" "blankets" "[I", .fieldLink RX4 17 "FeastLedger$Gathering" "open" "[[J", .fieldLink RX4 36 "FeastLedger$Debts" "size" "I", .fieldLink RX4 46 "FeastLedger$Debts" "due" "[I", .fieldLink RX4 49 "FeastLedger$Debts" "debtor" "[I", .fieldLink RX4 52 "FeastLedger$Debts" "creditor" "[I", .fieldLink RX4 55 "FeastLedger$Debts" "left" "[I", .methodLink RX4 42 yX3_isLoan, .instanceMethod yX3_isLoan, .selects RX3 yX3_isLoan yX3_isLoan, .initialized RX3, .code yX3_isLoan cX3_isLoan 2 (some .boolean), .fieldLink RX3 21 "FeastLedger$Debts" "due" "[I"] ++ wsX40 ++ wsX00 ++ wsX30)
def wsX4_nearestGiver : List Cond := .code yX4_nearestGiver cX4_nearestGiver 6 (some .int) :: ([.fieldLink RX4 20 "FeastLedger$Gathering" "found" "[Z", .fieldLink RX4 28 "FeastLedger$Gathering" "queue" "[I", .fieldLink RX4 9 "FeastLedger$Gathering" "stock" "[J", .fieldLink RX4 17 "FeastLedger$Gathering" "open" "[[J", .fieldLink RX4 24 "FeastLedger$Gathering" "next" "[I"] ++ wsX40)
def wsX4_handOn : List Cond := .code yX4_handOn cX4_handOn 7 (some .long) :: ([.fieldLink RX4 9 "FeastLedger$Gathering" "stock" "[J", .fieldLink RX4 17 "FeastLedger$Gathering" "open" "[[J", .fieldLink RX4 24 "FeastLedger$Gathering" "next" "[I", .methodLink RX4 66 Lib.MathLoose.min_long.x, .static Lib.MathLoose.min_long.x, .initialized "java/lang/Math", .code Lib.MathLoose.min_long.x Lib.MathLoose.min_long.code 4 (some .long)] ++ wsX40)
def wsX4_most : List Cond := .code yX4_most cX4_most 6 (some .long) :: ([.fieldLink RX4 9 "FeastLedger$Gathering" "stock" "[J", .methodLink RX4 58 yX4_nearestGiver, .instanceMethod yX4_nearestGiver, .selects RX4 yX4_nearestGiver yX4_nearestGiver, .initialized RX4, .code yX4_nearestGiver cX4_nearestGiver 6 (some .int), .fieldLink RX4 20 "FeastLedger$Gathering" "found" "[Z", .fieldLink RX4 28 "FeastLedger$Gathering" "queue" "[I", .fieldLink RX4 17 "FeastLedger$Gathering" "open" "[[J", .fieldLink RX4 24 "FeastLedger$Gathering" "next" "[I", .methodLink RX4 62 yX4_handOn, .instanceMethod yX4_handOn, .selects RX4 yX4_handOn yX4_handOn, .code yX4_handOn cX4_handOn 7 (some .long), .methodLink RX4 66 Lib.MathLoose.min_long.x, .static Lib.MathLoose.min_long.x, .initialized "java/lang/Math", .code Lib.MathLoose.min_long.x Lib.MathLoose.min_long.code 4 (some .long)] ++ wsX40)
def wsX4_side : List Cond := .code yX4_side cX4_side 3 (some .int) :: ([.fieldLink RX4 20 "FeastLedger$Gathering" "found" "[Z"] ++ wsX40)
def wsX5_init : List Cond := .code yX5_init cX5_init 1 none :: ([.methodLink RX5 3 objectInit, .instanceMethod objectInit, .code objectInit ⟨#[0xb1]⟩ 1 none, .arrayClass .byte, .fieldLink RX5 9 "FeastLedger$Tape" "bytes" "[B", .fieldLink RX5 15 "FeastLedger$Tape" "length" "I"] ++ wsX50)
def wsX5_append : List Cond := .code yX5_append cX5_append 3 none :: ([.fieldLink RX5 9 "FeastLedger$Tape" "bytes" "[B", .fieldLink RX5 15 "FeastLedger$Tape" "length" "I"] ++ wsX50)
def wsX6_init : List Cond := .code yX6_init cX6_init 1 none :: ([.methodLink RX6 3 objectInit, .instanceMethod objectInit, .code objectInit ⟨#[0xb1]⟩ 1 none, .arrayClass .byte, .fieldLink RX6 9 "FeastLedger$TextReader" "text" "[B"] ++ wsX60)
def wsX6_skipBlanks : List Cond := .code yX6_skipBlanks cX6_skipBlanks 1 none :: ([.fieldLink RX6 25 "FeastLedger$TextReader" "at" "I", .fieldLink RX6 21 "FeastLedger$TextReader" "length" "I", .fieldLink RX6 9 "FeastLedger$TextReader" "text" "[B"] ++ wsX60)
def wsX6_skipLetters : List Cond := .code yX6_skipLetters cX6_skipLetters 1 none :: ([.fieldLink RX6 25 "FeastLedger$TextReader" "at" "I", .fieldLink RX6 21 "FeastLedger$TextReader" "length" "I", .fieldLink RX6 9 "FeastLedger$TextReader" "text" "[B"] ++ wsX60)
def wsJ0_coder_7d493 : List Cond := .code yJ0_coder_7d493 cJ0_coder_7d493 1 (some .byte) :: ([.fieldLink RJ0 38 "java/lang/String" "COMPACT_STRINGS" "Z", .fieldLink RJ0 15 "java/lang/String" "coder" "B"])
def wsJ0_length_8abf5 : List Cond := .code yJ0_length_8abf5 cJ0_length_8abf5 1 (some .int) :: ([.fieldLink RJ0 9 "java/lang/String" "value" "[B", .methodLink RJ0 335 yJ0_coder_7d493, .instanceMethod yJ0_coder_7d493, .selects RJ0 yJ0_coder_7d493 yJ0_coder_7d493, .initialized RJ0, .code yJ0_coder_7d493 cJ0_coder_7d493 1 (some .byte), .fieldLink RJ0 38 "java/lang/String" "COMPACT_STRINGS" "Z", .fieldLink RJ0 15 "java/lang/String" "coder" "B"])
def wsJ0_isLatin1_aae02 : List Cond := .code yJ0_isLatin1_aae02 cJ0_isLatin1_aae02 1 (some .boolean) :: ([.fieldLink RJ0 38 "java/lang/String" "COMPACT_STRINGS" "Z", .fieldLink RJ0 15 "java/lang/String" "coder" "B"])
def wsJ3_checkIndex_8e157 : List Cond := .code yJ3_checkIndex_8e157 cJ3_checkIndex_8e157 3 (some .int) :: ([])
def wsJ0_checkIndex_df160 : List Cond := .code yJ0_checkIndex_df160 cJ0_checkIndex_df160 2 none :: ([.fieldLink RJ0 1053 "jdk/internal/util/Preconditions" "SIOOBE_FORMATTER" "Ljava/util/function/BiFunction;", .methodLink RJ0 1059 yJ3_checkIndex_8e157, .static yJ3_checkIndex_8e157, .initialized RJ3, .code yJ3_checkIndex_8e157 cJ3_checkIndex_8e157 3 (some .int)])
def wsJ1_charAt_3b067 : List Cond := .code yJ1_charAt_3b067 cJ1_charAt_3b067 2 (some .char) :: ([.methodLink RJ1 9 yJ0_checkIndex_df160, .static yJ0_checkIndex_df160, .initialized RJ0, .code yJ0_checkIndex_df160 cJ0_checkIndex_df160 2 none, .fieldLink RJ0 1053 "jdk/internal/util/Preconditions" "SIOOBE_FORMATTER" "Ljava/util/function/BiFunction;", .methodLink RJ0 1059 yJ3_checkIndex_8e157, .static yJ3_checkIndex_8e157, .initialized RJ3, .code yJ3_checkIndex_8e157 cJ3_checkIndex_8e157 3 (some .int)])
def wsJ2_length_9d52b : List Cond := .code yJ2_length_9d52b cJ2_length_9d52b 1 (some .int) :: ([])
def wsJ2_checkIndex_2214a : List Cond := .code yJ2_checkIndex_2214a cJ2_checkIndex_2214a 2 none :: ([.methodLink RJ2 48 yJ2_length_9d52b, .static yJ2_length_9d52b, .initialized RJ2, .code yJ2_length_9d52b cJ2_length_9d52b 1 (some .int), .methodLink RJ2 414 yJ0_checkIndex_df160, .static yJ0_checkIndex_df160, .initialized RJ0, .code yJ0_checkIndex_df160 cJ0_checkIndex_df160 2 none, .fieldLink RJ0 1053 "jdk/internal/util/Preconditions" "SIOOBE_FORMATTER" "Ljava/util/function/BiFunction;", .methodLink RJ0 1059 yJ3_checkIndex_8e157, .static yJ3_checkIndex_8e157, .initialized RJ3, .code yJ3_checkIndex_8e157 cJ3_checkIndex_8e157 3 (some .int)])
def wsJ2_getChar_3b067 : List Cond := .code yJ2_getChar_3b067 cJ2_getChar_3b067 2 (some .char) :: ([.fieldLink RJ2 44 "java/lang/StringUTF16" "$assertionsDisabled" "Z", .fieldLink RJ2 59 "java/lang/StringUTF16" "HI_BYTE_SHIFT" "I", .fieldLink RJ2 63 "java/lang/StringUTF16" "LO_BYTE_SHIFT" "I", .methodLink RJ2 48 yJ2_length_9d52b, .static yJ2_length_9d52b, .initialized RJ2, .code yJ2_length_9d52b cJ2_length_9d52b 1 (some .int)])
def wsJ2_charAt_3b067 : List Cond := .code yJ2_charAt_3b067 cJ2_charAt_3b067 2 (some .char) :: ([.methodLink RJ2 67 yJ2_checkIndex_2214a, .static yJ2_checkIndex_2214a, .initialized RJ2, .code yJ2_checkIndex_2214a cJ2_checkIndex_2214a 2 none, .methodLink RJ2 48 yJ2_length_9d52b, .static yJ2_length_9d52b, .code yJ2_length_9d52b cJ2_length_9d52b 1 (some .int), .methodLink RJ2 414 yJ0_checkIndex_df160, .static yJ0_checkIndex_df160, .initialized RJ0, .code yJ0_checkIndex_df160 cJ0_checkIndex_df160 2 none, .fieldLink RJ0 1053 "jdk/internal/util/Preconditions" "SIOOBE_FORMATTER" "Ljava/util/function/BiFunction;", .methodLink RJ0 1059 yJ3_checkIndex_8e157, .static yJ3_checkIndex_8e157, .initialized RJ3, .code yJ3_checkIndex_8e157 cJ3_checkIndex_8e157 3 (some .int), .methodLink RJ2 71 yJ2_getChar_3b067, .static yJ2_getChar_3b067, .code yJ2_getChar_3b067 cJ2_getChar_3b067 2 (some .char), .fieldLink RJ2 44 "java/lang/StringUTF16" "$assertionsDisabled" "Z", .fieldLink RJ2 59 "java/lang/StringUTF16" "HI_BYTE_SHIFT" "I", .fieldLink RJ2 63 "java/lang/StringUTF16" "LO_BYTE_SHIFT" "I"])
def wsJ0_charAt_5068e_r1 : List Cond := [Cond.fieldLink RJ0 9 "java/lang/String" "value" "[B", Cond.methodLink RJ0 492 yJ0_isLatin1_aae02, Cond.instanceMethod yJ0_isLatin1_aae02, Cond.selects RJ0 yJ0_isLatin1_aae02 yJ0_isLatin1_aae02, Cond.initialized RJ0, Cond.code yJ0_isLatin1_aae02 cJ0_isLatin1_aae02 1 (some .boolean), Cond.fieldLink RJ0 38 "java/lang/String" "COMPACT_STRINGS" "Z", Cond.fieldLink RJ0 15 "java/lang/String" "coder" "B", Cond.methodLink RJ0 495 yJ1_charAt_3b067, Cond.static yJ1_charAt_3b067, Cond.initialized RJ1, Cond.code yJ1_charAt_3b067 cJ1_charAt_3b067 2 (some .char), Cond.methodLink RJ1 9 yJ0_checkIndex_df160, Cond.static yJ0_checkIndex_df160, Cond.code yJ0_checkIndex_df160 cJ0_checkIndex_df160 2 none, Cond.fieldLink RJ0 1053 "jdk/internal/util/Preconditions" "SIOOBE_FORMATTER" "Ljava/util/function/BiFunction;", Cond.methodLink RJ0 1059 yJ3_checkIndex_8e157, Cond.static yJ3_checkIndex_8e157, Cond.initialized RJ3, Cond.code yJ3_checkIndex_8e157 cJ3_checkIndex_8e157 3 (some .int), Cond.methodLink RJ0 498 yJ2_charAt_3b067, Cond.static yJ2_charAt_3b067, Cond.initialized RJ2, Cond.code yJ2_charAt_3b067 cJ2_charAt_3b067 2 (some .char)]
def wsJ0_charAt_5068e_r2 : List Cond := [Cond.methodLink RJ2 67 yJ2_checkIndex_2214a, Cond.static yJ2_checkIndex_2214a, Cond.code yJ2_checkIndex_2214a cJ2_checkIndex_2214a 2 none, Cond.methodLink RJ2 48 yJ2_length_9d52b, Cond.static yJ2_length_9d52b, Cond.code yJ2_length_9d52b cJ2_length_9d52b 1 (some .int), Cond.methodLink RJ2 414 yJ0_checkIndex_df160, Cond.methodLink RJ2 71 yJ2_getChar_3b067, Cond.static yJ2_getChar_3b067, Cond.code yJ2_getChar_3b067 cJ2_getChar_3b067 2 (some .char), Cond.fieldLink RJ2 44 "java/lang/StringUTF16" "$assertionsDisabled" "Z", Cond.fieldLink RJ2 59 "java/lang/StringUTF16" "HI_BYTE_SHIFT" "I", Cond.fieldLink RJ2 63 "java/lang/StringUTF16" "LO_BYTE_SHIFT" "I"]
def wsJ0_charAt_5068e : List Cond := .code yJ0_charAt_5068e cJ0_charAt_5068e 2 (some .char) :: ((wsJ0_charAt_5068e_r1 ++ wsJ0_charAt_5068e_r2))
def wsX6_spells_r1 : List Cond := [Cond.fieldLink RX6 25 "FeastLedger$TextReader" "at" "I", Cond.fieldLink RX6 9 "FeastLedger$TextReader" "text" "[B", Cond.methodLink RX6 99 yJ0_length_8abf5, Cond.instanceMethod yJ0_length_8abf5, Cond.selects RJ0 yJ0_length_8abf5 yJ0_length_8abf5, Cond.initialized RJ0, Cond.code yJ0_length_8abf5 cJ0_length_8abf5 1 (some .int), Cond.fieldLink RJ0 9 "java/lang/String" "value" "[B", Cond.methodLink RJ0 335 yJ0_coder_7d493, Cond.instanceMethod yJ0_coder_7d493, Cond.selects RJ0 yJ0_coder_7d493 yJ0_coder_7d493, Cond.code yJ0_coder_7d493 cJ0_coder_7d493 1 (some .byte), Cond.fieldLink RJ0 38 "java/lang/String" "COMPACT_STRINGS" "Z", Cond.fieldLink RJ0 15 "java/lang/String" "coder" "B", Cond.methodLink RX6 104 yJ0_charAt_5068e, Cond.instanceMethod yJ0_charAt_5068e, Cond.selects RJ0 yJ0_charAt_5068e yJ0_charAt_5068e, Cond.code yJ0_charAt_5068e cJ0_charAt_5068e 2 (some .char), Cond.methodLink RJ0 492 yJ0_isLatin1_aae02, Cond.instanceMethod yJ0_isLatin1_aae02, Cond.selects RJ0 yJ0_isLatin1_aae02 yJ0_isLatin1_aae02, Cond.code yJ0_isLatin1_aae02 cJ0_isLatin1_aae02 1 (some .boolean), Cond.methodLink RJ0 495 yJ1_charAt_3b067, Cond.static yJ1_charAt_3b067]
def wsX6_spells_r2 : List Cond := [Cond.initialized RJ1, Cond.code yJ1_charAt_3b067 cJ1_charAt_3b067 2 (some .char), Cond.methodLink RJ1 9 yJ0_checkIndex_df160, Cond.static yJ0_checkIndex_df160, Cond.code yJ0_checkIndex_df160 cJ0_checkIndex_df160 2 none, Cond.fieldLink RJ0 1053 "jdk/internal/util/Preconditions" "SIOOBE_FORMATTER" "Ljava/util/function/BiFunction;", Cond.methodLink RJ0 1059 yJ3_checkIndex_8e157, Cond.static yJ3_checkIndex_8e157, Cond.initialized RJ3, Cond.code yJ3_checkIndex_8e157 cJ3_checkIndex_8e157 3 (some .int), Cond.methodLink RJ0 498 yJ2_charAt_3b067, Cond.static yJ2_charAt_3b067, Cond.initialized RJ2, Cond.code yJ2_charAt_3b067 cJ2_charAt_3b067 2 (some .char), Cond.methodLink RJ2 67 yJ2_checkIndex_2214a, Cond.static yJ2_checkIndex_2214a, Cond.code yJ2_checkIndex_2214a cJ2_checkIndex_2214a 2 none, Cond.methodLink RJ2 48 yJ2_length_9d52b, Cond.static yJ2_length_9d52b, Cond.code yJ2_length_9d52b cJ2_length_9d52b 1 (some .int), Cond.methodLink RJ2 414 yJ0_checkIndex_df160, Cond.methodLink RJ2 71 yJ2_getChar_3b067, Cond.static yJ2_getChar_3b067, Cond.code yJ2_getChar_3b067 cJ2_getChar_3b067 2 (some .char)]
def wsX6_spells_r3 : List Cond := [Cond.fieldLink RJ2 44 "java/lang/StringUTF16" "$assertionsDisabled" "Z", Cond.fieldLink RJ2 59 "java/lang/StringUTF16" "HI_BYTE_SHIFT" "I", Cond.fieldLink RJ2 63 "java/lang/StringUTF16" "LO_BYTE_SHIFT" "I"]
def wsX6_spells : List Cond := .code yX6_spells cX6_spells 4 (some .boolean) :: ((wsX6_spells_r1 ++ (wsX6_spells_r2 ++ wsX6_spells_r3)) ++ wsX60)
def wsX6_mark : List Cond := .code yX6_mark cX6_mark 3 none :: ([.fieldLink RX6 28 "FeastLedger$TextReader" "fault" "I", .fieldLink RX6 31 "FeastLedger$TextReader" "faultPlace" "I"] ++ wsX60)
def wsX6_readNumber : List Cond := .code yX6_readNumber cX6_readNumber 4 (some .int) :: ([.fieldLink RX6 25 "FeastLedger$TextReader" "at" "I", .fieldLink RX6 21 "FeastLedger$TextReader" "length" "I", .fieldLink RX6 9 "FeastLedger$TextReader" "text" "[B", .methodLink RX6 93 Lib.Math.min.name, .static Lib.Math.min.name, .initialized "java/lang/Math", .code Lib.Math.min.name Lib.Math.min.code 2 (some .int), .methodLink RX6 43 yX6_skipBlanks, .instanceMethod yX6_skipBlanks, .selects RX6 yX6_skipBlanks yX6_skipBlanks, .initialized RX6, .code yX6_skipBlanks cX6_skipBlanks 1 none, .methodLink RX6 62 yX6_mark, .instanceMethod yX6_mark, .selects RX6 yX6_mark yX6_mark, .code yX6_mark cX6_mark 3 none, .fieldLink RX6 28 "FeastLedger$TextReader" "fault" "I", .fieldLink RX6 31 "FeastLedger$TextReader" "faultPlace" "I"] ++ wsX60)
def wsX6_readSign : List Cond := .code yX6_readSign cX6_readSign 2 none :: ([.fieldLink RX6 25 "FeastLedger$TextReader" "at" "I", .fieldLink RX6 21 "FeastLedger$TextReader" "length" "I", .fieldLink RX6 9 "FeastLedger$TextReader" "text" "[B", .methodLink RX6 43 yX6_skipBlanks, .instanceMethod yX6_skipBlanks, .selects RX6 yX6_skipBlanks yX6_skipBlanks, .initialized RX6, .code yX6_skipBlanks cX6_skipBlanks 1 none, .methodLink RX6 62 yX6_mark, .instanceMethod yX6_mark, .selects RX6 yX6_mark yX6_mark, .code yX6_mark cX6_mark 3 none, .fieldLink RX6 28 "FeastLedger$TextReader" "fault" "I", .fieldLink RX6 31 "FeastLedger$TextReader" "faultPlace" "I"] ++ wsX60)
def wsX6_readWithin_r1 : List Cond := [Cond.fieldLink RX6 25 "FeastLedger$TextReader" "at" "I", Cond.methodLink RX6 43 yX6_skipBlanks, Cond.instanceMethod yX6_skipBlanks, Cond.selects RX6 yX6_skipBlanks yX6_skipBlanks, Cond.initialized RX6, Cond.code yX6_skipBlanks cX6_skipBlanks 1 none, Cond.fieldLink RX6 21 "FeastLedger$TextReader" "length" "I", Cond.fieldLink RX6 9 "FeastLedger$TextReader" "text" "[B", Cond.methodLink RX6 50 yX6_skipLetters, Cond.instanceMethod yX6_skipLetters, Cond.selects RX6 yX6_skipLetters yX6_skipLetters, Cond.code yX6_skipLetters cX6_skipLetters 1 none, Cond.methodLink RX6 55 yX6_spells, Cond.instanceMethod yX6_spells, Cond.selects RX6 yX6_spells yX6_spells, Cond.code yX6_spells cX6_spells 4 (some .boolean), Cond.methodLink RX6 99 yJ0_length_8abf5, Cond.instanceMethod yJ0_length_8abf5, Cond.selects RJ0 yJ0_length_8abf5 yJ0_length_8abf5, Cond.initialized RJ0, Cond.code yJ0_length_8abf5 cJ0_length_8abf5 1 (some .int), Cond.fieldLink RJ0 9 "java/lang/String" "value" "[B", Cond.methodLink RJ0 335 yJ0_coder_7d493, Cond.instanceMethod yJ0_coder_7d493]
def wsX6_readWithin_r2 : List Cond := [Cond.selects RJ0 yJ0_coder_7d493 yJ0_coder_7d493, Cond.code yJ0_coder_7d493 cJ0_coder_7d493 1 (some .byte), Cond.fieldLink RJ0 38 "java/lang/String" "COMPACT_STRINGS" "Z", Cond.fieldLink RJ0 15 "java/lang/String" "coder" "B", Cond.methodLink RX6 104 yJ0_charAt_5068e, Cond.instanceMethod yJ0_charAt_5068e, Cond.selects RJ0 yJ0_charAt_5068e yJ0_charAt_5068e, Cond.code yJ0_charAt_5068e cJ0_charAt_5068e 2 (some .char), Cond.methodLink RJ0 492 yJ0_isLatin1_aae02, Cond.instanceMethod yJ0_isLatin1_aae02, Cond.selects RJ0 yJ0_isLatin1_aae02 yJ0_isLatin1_aae02, Cond.code yJ0_isLatin1_aae02 cJ0_isLatin1_aae02 1 (some .boolean), Cond.methodLink RJ0 495 yJ1_charAt_3b067, Cond.static yJ1_charAt_3b067, Cond.initialized RJ1, Cond.code yJ1_charAt_3b067 cJ1_charAt_3b067 2 (some .char), Cond.methodLink RJ1 9 yJ0_checkIndex_df160, Cond.static yJ0_checkIndex_df160, Cond.code yJ0_checkIndex_df160 cJ0_checkIndex_df160 2 none, Cond.fieldLink RJ0 1053 "jdk/internal/util/Preconditions" "SIOOBE_FORMATTER" "Ljava/util/function/BiFunction;", Cond.methodLink RJ0 1059 yJ3_checkIndex_8e157, Cond.static yJ3_checkIndex_8e157, Cond.initialized RJ3, Cond.code yJ3_checkIndex_8e157 cJ3_checkIndex_8e157 3 (some .int)]
def wsX6_readWithin_r3 : List Cond := [Cond.methodLink RJ0 498 yJ2_charAt_3b067, Cond.static yJ2_charAt_3b067, Cond.initialized RJ2, Cond.code yJ2_charAt_3b067 cJ2_charAt_3b067 2 (some .char), Cond.methodLink RJ2 67 yJ2_checkIndex_2214a, Cond.static yJ2_checkIndex_2214a, Cond.code yJ2_checkIndex_2214a cJ2_checkIndex_2214a 2 none, Cond.methodLink RJ2 48 yJ2_length_9d52b, Cond.static yJ2_length_9d52b, Cond.code yJ2_length_9d52b cJ2_length_9d52b 1 (some .int), Cond.methodLink RJ2 414 yJ0_checkIndex_df160, Cond.methodLink RJ2 71 yJ2_getChar_3b067, Cond.static yJ2_getChar_3b067, Cond.code yJ2_getChar_3b067 cJ2_getChar_3b067 2 (some .char), Cond.fieldLink RJ2 44 "java/lang/StringUTF16" "$assertionsDisabled" "Z", Cond.fieldLink RJ2 59 "java/lang/StringUTF16" "HI_BYTE_SHIFT" "I", Cond.fieldLink RJ2 63 "java/lang/StringUTF16" "LO_BYTE_SHIFT" "I", Cond.methodLink RX6 62 yX6_mark, Cond.instanceMethod yX6_mark, Cond.selects RX6 yX6_mark yX6_mark, Cond.code yX6_mark cX6_mark 3 none, Cond.fieldLink RX6 28 "FeastLedger$TextReader" "fault" "I", Cond.fieldLink RX6 31 "FeastLedger$TextReader" "faultPlace" "I"]
def wsX6_readWithin : List Cond := .code yX6_readWithin cX6_readWithin 2 none :: ((wsX6_readWithin_r1 ++ (wsX6_readWithin_r2 ++ wsX6_readWithin_r3)) ++ wsX60)
def wsX6_readReturn_r1 : List Cond := [Cond.fieldLink RX6 80 "FeastLedger$TextReader" "returnTimes" "I", Cond.fieldLink RX6 34 "FeastLedger$TextReader" "returnBy" "I", Cond.fieldLink RX6 86 "FeastLedger$TextReader" "within" "I", Cond.methodLink RX6 72 yX6_readNumber, Cond.instanceMethod yX6_readNumber, Cond.selects RX6 yX6_readNumber yX6_readNumber, Cond.initialized RX6, Cond.code yX6_readNumber cX6_readNumber 4 (some .int), Cond.fieldLink RX6 25 "FeastLedger$TextReader" "at" "I", Cond.fieldLink RX6 21 "FeastLedger$TextReader" "length" "I", Cond.fieldLink RX6 9 "FeastLedger$TextReader" "text" "[B", Cond.methodLink RX6 93 Lib.Math.min.name, Cond.static Lib.Math.min.name, Cond.initialized "java/lang/Math", Cond.code Lib.Math.min.name Lib.Math.min.code 2 (some .int), Cond.methodLink RX6 43 yX6_skipBlanks, Cond.instanceMethod yX6_skipBlanks, Cond.selects RX6 yX6_skipBlanks yX6_skipBlanks, Cond.code yX6_skipBlanks cX6_skipBlanks 1 none, Cond.methodLink RX6 62 yX6_mark, Cond.instanceMethod yX6_mark, Cond.selects RX6 yX6_mark yX6_mark, Cond.code yX6_mark cX6_mark 3 none, Cond.fieldLink RX6 28 "FeastLedger$TextReader" "fault" "I"]
def wsX6_readReturn_r2 : List Cond := [Cond.fieldLink RX6 31 "FeastLedger$TextReader" "faultPlace" "I", Cond.methodLink RX6 76 yX6_readSign, Cond.instanceMethod yX6_readSign, Cond.selects RX6 yX6_readSign yX6_readSign, Cond.code yX6_readSign cX6_readSign 2 none, Cond.methodLink RX6 83 yX6_readWithin, Cond.instanceMethod yX6_readWithin, Cond.selects RX6 yX6_readWithin yX6_readWithin, Cond.code yX6_readWithin cX6_readWithin 2 none, Cond.methodLink RX6 50 yX6_skipLetters, Cond.instanceMethod yX6_skipLetters, Cond.selects RX6 yX6_skipLetters yX6_skipLetters, Cond.code yX6_skipLetters cX6_skipLetters 1 none, Cond.methodLink RX6 55 yX6_spells, Cond.instanceMethod yX6_spells, Cond.selects RX6 yX6_spells yX6_spells, Cond.code yX6_spells cX6_spells 4 (some .boolean), Cond.methodLink RX6 99 yJ0_length_8abf5, Cond.instanceMethod yJ0_length_8abf5, Cond.selects RJ0 yJ0_length_8abf5 yJ0_length_8abf5, Cond.initialized RJ0, Cond.code yJ0_length_8abf5 cJ0_length_8abf5 1 (some .int), Cond.fieldLink RJ0 9 "java/lang/String" "value" "[B", Cond.methodLink RJ0 335 yJ0_coder_7d493]
def wsX6_readReturn_r3 : List Cond := [Cond.instanceMethod yJ0_coder_7d493, Cond.selects RJ0 yJ0_coder_7d493 yJ0_coder_7d493, Cond.code yJ0_coder_7d493 cJ0_coder_7d493 1 (some .byte), Cond.fieldLink RJ0 38 "java/lang/String" "COMPACT_STRINGS" "Z", Cond.fieldLink RJ0 15 "java/lang/String" "coder" "B", Cond.methodLink RX6 104 yJ0_charAt_5068e, Cond.instanceMethod yJ0_charAt_5068e, Cond.selects RJ0 yJ0_charAt_5068e yJ0_charAt_5068e, Cond.code yJ0_charAt_5068e cJ0_charAt_5068e 2 (some .char), Cond.methodLink RJ0 492 yJ0_isLatin1_aae02, Cond.instanceMethod yJ0_isLatin1_aae02, Cond.selects RJ0 yJ0_isLatin1_aae02 yJ0_isLatin1_aae02, Cond.code yJ0_isLatin1_aae02 cJ0_isLatin1_aae02 1 (some .boolean), Cond.methodLink RJ0 495 yJ1_charAt_3b067, Cond.static yJ1_charAt_3b067, Cond.initialized RJ1, Cond.code yJ1_charAt_3b067 cJ1_charAt_3b067 2 (some .char), Cond.methodLink RJ1 9 yJ0_checkIndex_df160, Cond.static yJ0_checkIndex_df160, Cond.code yJ0_checkIndex_df160 cJ0_checkIndex_df160 2 none, Cond.fieldLink RJ0 1053 "jdk/internal/util/Preconditions" "SIOOBE_FORMATTER" "Ljava/util/function/BiFunction;", Cond.methodLink RJ0 1059 yJ3_checkIndex_8e157, Cond.static yJ3_checkIndex_8e157, Cond.initialized RJ3]
def wsX6_readReturn_r4 : List Cond := [Cond.code yJ3_checkIndex_8e157 cJ3_checkIndex_8e157 3 (some .int), Cond.methodLink RJ0 498 yJ2_charAt_3b067, Cond.static yJ2_charAt_3b067, Cond.initialized RJ2, Cond.code yJ2_charAt_3b067 cJ2_charAt_3b067 2 (some .char), Cond.methodLink RJ2 67 yJ2_checkIndex_2214a, Cond.static yJ2_checkIndex_2214a, Cond.code yJ2_checkIndex_2214a cJ2_checkIndex_2214a 2 none, Cond.methodLink RJ2 48 yJ2_length_9d52b, Cond.static yJ2_length_9d52b, Cond.code yJ2_length_9d52b cJ2_length_9d52b 1 (some .int), Cond.methodLink RJ2 414 yJ0_checkIndex_df160, Cond.methodLink RJ2 71 yJ2_getChar_3b067, Cond.static yJ2_getChar_3b067, Cond.code yJ2_getChar_3b067 cJ2_getChar_3b067 2 (some .char), Cond.fieldLink RJ2 44 "java/lang/StringUTF16" "$assertionsDisabled" "Z", Cond.fieldLink RJ2 59 "java/lang/StringUTF16" "HI_BYTE_SHIFT" "I", Cond.fieldLink RJ2 63 "java/lang/StringUTF16" "LO_BYTE_SHIFT" "I"]
def wsX6_readReturn : List Cond := .code yX6_readReturn cX6_readReturn 1 none :: ((wsX6_readReturn_r1 ++ (wsX6_readReturn_r2 ++ (wsX6_readReturn_r3 ++ wsX6_readReturn_r4))) ++ wsX60)
def wsX6_readLoan_r1 : List Cond := [Cond.fieldLink RX6 89 "FeastLedger$TextReader" "loanTimes" "I", Cond.fieldLink RX6 37 "FeastLedger$TextReader" "loanBy" "I", Cond.methodLink RX6 72 yX6_readNumber, Cond.instanceMethod yX6_readNumber, Cond.selects RX6 yX6_readNumber yX6_readNumber, Cond.initialized RX6, Cond.code yX6_readNumber cX6_readNumber 4 (some .int), Cond.fieldLink RX6 25 "FeastLedger$TextReader" "at" "I", Cond.fieldLink RX6 21 "FeastLedger$TextReader" "length" "I", Cond.fieldLink RX6 9 "FeastLedger$TextReader" "text" "[B", Cond.methodLink RX6 93 Lib.Math.min.name, Cond.static Lib.Math.min.name, Cond.initialized "java/lang/Math", Cond.code Lib.Math.min.name Lib.Math.min.code 2 (some .int), Cond.methodLink RX6 43 yX6_skipBlanks, Cond.instanceMethod yX6_skipBlanks, Cond.selects RX6 yX6_skipBlanks yX6_skipBlanks, Cond.code yX6_skipBlanks cX6_skipBlanks 1 none, Cond.methodLink RX6 62 yX6_mark, Cond.instanceMethod yX6_mark, Cond.selects RX6 yX6_mark yX6_mark, Cond.code yX6_mark cX6_mark 3 none, Cond.fieldLink RX6 28 "FeastLedger$TextReader" "fault" "I", Cond.fieldLink RX6 31 "FeastLedger$TextReader" "faultPlace" "I"]
def wsX6_readLoan_r2 : List Cond := [Cond.methodLink RX6 76 yX6_readSign, Cond.instanceMethod yX6_readSign, Cond.selects RX6 yX6_readSign yX6_readSign, Cond.code yX6_readSign cX6_readSign 2 none]
def wsX6_readLoan : List Cond := .code yX6_readLoan cX6_readLoan 1 none :: ((wsX6_readLoan_r1 ++ wsX6_readLoan_r2) ++ wsX60)
def wsX6_readClause_r1 : List Cond := [Cond.fieldLink RX6 25 "FeastLedger$TextReader" "at" "I", Cond.fieldLink RX6 40 "FeastLedger$TextReader" "witness" "I", Cond.methodLink RX6 50 yX6_skipLetters, Cond.instanceMethod yX6_skipLetters, Cond.selects RX6 yX6_skipLetters yX6_skipLetters, Cond.initialized RX6, Cond.code yX6_skipLetters cX6_skipLetters 1 none, Cond.fieldLink RX6 21 "FeastLedger$TextReader" "length" "I", Cond.fieldLink RX6 9 "FeastLedger$TextReader" "text" "[B", Cond.methodLink RX6 55 yX6_spells, Cond.instanceMethod yX6_spells, Cond.selects RX6 yX6_spells yX6_spells, Cond.code yX6_spells cX6_spells 4 (some .boolean), Cond.methodLink RX6 99 yJ0_length_8abf5, Cond.instanceMethod yJ0_length_8abf5, Cond.selects RJ0 yJ0_length_8abf5 yJ0_length_8abf5, Cond.initialized RJ0, Cond.code yJ0_length_8abf5 cJ0_length_8abf5 1 (some .int), Cond.fieldLink RJ0 9 "java/lang/String" "value" "[B", Cond.methodLink RJ0 335 yJ0_coder_7d493, Cond.instanceMethod yJ0_coder_7d493, Cond.selects RJ0 yJ0_coder_7d493 yJ0_coder_7d493, Cond.code yJ0_coder_7d493 cJ0_coder_7d493 1 (some .byte), Cond.fieldLink RJ0 38 "java/lang/String" "COMPACT_STRINGS" "Z"]
def wsX6_readClause_r2 : List Cond := [Cond.fieldLink RJ0 15 "java/lang/String" "coder" "B", Cond.methodLink RX6 104 yJ0_charAt_5068e, Cond.instanceMethod yJ0_charAt_5068e, Cond.selects RJ0 yJ0_charAt_5068e yJ0_charAt_5068e, Cond.code yJ0_charAt_5068e cJ0_charAt_5068e 2 (some .char), Cond.methodLink RJ0 492 yJ0_isLatin1_aae02, Cond.instanceMethod yJ0_isLatin1_aae02, Cond.selects RJ0 yJ0_isLatin1_aae02 yJ0_isLatin1_aae02, Cond.code yJ0_isLatin1_aae02 cJ0_isLatin1_aae02 1 (some .boolean), Cond.methodLink RJ0 495 yJ1_charAt_3b067, Cond.static yJ1_charAt_3b067, Cond.initialized RJ1, Cond.code yJ1_charAt_3b067 cJ1_charAt_3b067 2 (some .char), Cond.methodLink RJ1 9 yJ0_checkIndex_df160, Cond.static yJ0_checkIndex_df160, Cond.code yJ0_checkIndex_df160 cJ0_checkIndex_df160 2 none, Cond.fieldLink RJ0 1053 "jdk/internal/util/Preconditions" "SIOOBE_FORMATTER" "Ljava/util/function/BiFunction;", Cond.methodLink RJ0 1059 yJ3_checkIndex_8e157, Cond.static yJ3_checkIndex_8e157, Cond.initialized RJ3, Cond.code yJ3_checkIndex_8e157 cJ3_checkIndex_8e157 3 (some .int), Cond.methodLink RJ0 498 yJ2_charAt_3b067, Cond.static yJ2_charAt_3b067, Cond.initialized RJ2]
def wsX6_readClause_r3 : List Cond := [Cond.code yJ2_charAt_3b067 cJ2_charAt_3b067 2 (some .char), Cond.methodLink RJ2 67 yJ2_checkIndex_2214a, Cond.static yJ2_checkIndex_2214a, Cond.code yJ2_checkIndex_2214a cJ2_checkIndex_2214a 2 none, Cond.methodLink RJ2 48 yJ2_length_9d52b, Cond.static yJ2_length_9d52b, Cond.code yJ2_length_9d52b cJ2_length_9d52b 1 (some .int), Cond.methodLink RJ2 414 yJ0_checkIndex_df160, Cond.methodLink RJ2 71 yJ2_getChar_3b067, Cond.static yJ2_getChar_3b067, Cond.code yJ2_getChar_3b067 cJ2_getChar_3b067 2 (some .char), Cond.fieldLink RJ2 44 "java/lang/StringUTF16" "$assertionsDisabled" "Z", Cond.fieldLink RJ2 59 "java/lang/StringUTF16" "HI_BYTE_SHIFT" "I", Cond.fieldLink RJ2 63 "java/lang/StringUTF16" "LO_BYTE_SHIFT" "I", Cond.methodLink RX6 62 yX6_mark, Cond.instanceMethod yX6_mark, Cond.selects RX6 yX6_mark yX6_mark, Cond.code yX6_mark cX6_mark 3 none, Cond.fieldLink RX6 28 "FeastLedger$TextReader" "fault" "I", Cond.fieldLink RX6 31 "FeastLedger$TextReader" "faultPlace" "I", Cond.methodLink RX6 66 yX6_readReturn, Cond.instanceMethod yX6_readReturn, Cond.selects RX6 yX6_readReturn yX6_readReturn, Cond.code yX6_readReturn cX6_readReturn 1 none]
def wsX6_readClause_r4 : List Cond := [Cond.fieldLink RX6 80 "FeastLedger$TextReader" "returnTimes" "I", Cond.fieldLink RX6 34 "FeastLedger$TextReader" "returnBy" "I", Cond.fieldLink RX6 86 "FeastLedger$TextReader" "within" "I", Cond.methodLink RX6 72 yX6_readNumber, Cond.instanceMethod yX6_readNumber, Cond.selects RX6 yX6_readNumber yX6_readNumber, Cond.code yX6_readNumber cX6_readNumber 4 (some .int), Cond.methodLink RX6 93 Lib.Math.min.name, Cond.static Lib.Math.min.name, Cond.initialized "java/lang/Math", Cond.code Lib.Math.min.name Lib.Math.min.code 2 (some .int), Cond.methodLink RX6 43 yX6_skipBlanks, Cond.instanceMethod yX6_skipBlanks, Cond.selects RX6 yX6_skipBlanks yX6_skipBlanks, Cond.code yX6_skipBlanks cX6_skipBlanks 1 none, Cond.methodLink RX6 76 yX6_readSign, Cond.instanceMethod yX6_readSign, Cond.selects RX6 yX6_readSign yX6_readSign, Cond.code yX6_readSign cX6_readSign 2 none, Cond.methodLink RX6 83 yX6_readWithin, Cond.instanceMethod yX6_readWithin, Cond.selects RX6 yX6_readWithin yX6_readWithin, Cond.code yX6_readWithin cX6_readWithin 2 none, Cond.methodLink RX6 69 yX6_readLoan]
def wsX6_readClause_r5 : List Cond := [Cond.instanceMethod yX6_readLoan, Cond.selects RX6 yX6_readLoan yX6_readLoan, Cond.code yX6_readLoan cX6_readLoan 1 none, Cond.fieldLink RX6 89 "FeastLedger$TextReader" "loanTimes" "I", Cond.fieldLink RX6 37 "FeastLedger$TextReader" "loanBy" "I"]
def wsX6_readClause : List Cond := .code yX6_readClause cX6_readClause 6 none :: ((wsX6_readClause_r1 ++ (wsX6_readClause_r2 ++ (wsX6_readClause_r3 ++ (wsX6_readClause_r4 ++ wsX6_readClause_r5)))) ++ wsX60)
def wsX6_read_r1 : List Cond := [Cond.fieldLink RX6 9 "FeastLedger$TextReader" "text" "[B", Cond.methodLink RX6 15 arraycopyName, Cond.native arraycopyName, Cond.static arraycopyName, Cond.initialized "java/lang/System", Cond.fieldLink RX6 21 "FeastLedger$TextReader" "length" "I", Cond.fieldLink RX6 25 "FeastLedger$TextReader" "at" "I", Cond.fieldLink RX6 28 "FeastLedger$TextReader" "fault" "I", Cond.fieldLink RX6 31 "FeastLedger$TextReader" "faultPlace" "I", Cond.fieldLink RX6 34 "FeastLedger$TextReader" "returnBy" "I", Cond.fieldLink RX6 37 "FeastLedger$TextReader" "loanBy" "I", Cond.fieldLink RX6 40 "FeastLedger$TextReader" "witness" "I", Cond.methodLink RX6 43 yX6_skipBlanks, Cond.instanceMethod yX6_skipBlanks, Cond.selects RX6 yX6_skipBlanks yX6_skipBlanks, Cond.initialized RX6, Cond.code yX6_skipBlanks cX6_skipBlanks 1 none, Cond.methodLink RX6 46 yX6_readClause, Cond.instanceMethod yX6_readClause, Cond.selects RX6 yX6_readClause yX6_readClause, Cond.code yX6_readClause cX6_readClause 6 none, Cond.methodLink RX6 50 yX6_skipLetters, Cond.instanceMethod yX6_skipLetters, Cond.selects RX6 yX6_skipLetters yX6_skipLetters]
def wsX6_read_r2 : List Cond := [Cond.code yX6_skipLetters cX6_skipLetters 1 none, Cond.methodLink RX6 55 yX6_spells, Cond.instanceMethod yX6_spells, Cond.selects RX6 yX6_spells yX6_spells, Cond.code yX6_spells cX6_spells 4 (some .boolean), Cond.methodLink RX6 99 yJ0_length_8abf5, Cond.instanceMethod yJ0_length_8abf5, Cond.selects RJ0 yJ0_length_8abf5 yJ0_length_8abf5, Cond.initialized RJ0, Cond.code yJ0_length_8abf5 cJ0_length_8abf5 1 (some .int), Cond.fieldLink RJ0 9 "java/lang/String" "value" "[B", Cond.methodLink RJ0 335 yJ0_coder_7d493, Cond.instanceMethod yJ0_coder_7d493, Cond.selects RJ0 yJ0_coder_7d493 yJ0_coder_7d493, Cond.code yJ0_coder_7d493 cJ0_coder_7d493 1 (some .byte), Cond.fieldLink RJ0 38 "java/lang/String" "COMPACT_STRINGS" "Z", Cond.fieldLink RJ0 15 "java/lang/String" "coder" "B", Cond.methodLink RX6 104 yJ0_charAt_5068e, Cond.instanceMethod yJ0_charAt_5068e, Cond.selects RJ0 yJ0_charAt_5068e yJ0_charAt_5068e, Cond.code yJ0_charAt_5068e cJ0_charAt_5068e 2 (some .char), Cond.methodLink RJ0 492 yJ0_isLatin1_aae02, Cond.instanceMethod yJ0_isLatin1_aae02, Cond.selects RJ0 yJ0_isLatin1_aae02 yJ0_isLatin1_aae02]
def wsX6_read_r3 : List Cond := [Cond.code yJ0_isLatin1_aae02 cJ0_isLatin1_aae02 1 (some .boolean), Cond.methodLink RJ0 495 yJ1_charAt_3b067, Cond.static yJ1_charAt_3b067, Cond.initialized RJ1, Cond.code yJ1_charAt_3b067 cJ1_charAt_3b067 2 (some .char), Cond.methodLink RJ1 9 yJ0_checkIndex_df160, Cond.static yJ0_checkIndex_df160, Cond.code yJ0_checkIndex_df160 cJ0_checkIndex_df160 2 none, Cond.fieldLink RJ0 1053 "jdk/internal/util/Preconditions" "SIOOBE_FORMATTER" "Ljava/util/function/BiFunction;", Cond.methodLink RJ0 1059 yJ3_checkIndex_8e157, Cond.static yJ3_checkIndex_8e157, Cond.initialized RJ3, Cond.code yJ3_checkIndex_8e157 cJ3_checkIndex_8e157 3 (some .int), Cond.methodLink RJ0 498 yJ2_charAt_3b067, Cond.static yJ2_charAt_3b067, Cond.initialized RJ2, Cond.code yJ2_charAt_3b067 cJ2_charAt_3b067 2 (some .char), Cond.methodLink RJ2 67 yJ2_checkIndex_2214a, Cond.static yJ2_checkIndex_2214a, Cond.code yJ2_checkIndex_2214a cJ2_checkIndex_2214a 2 none, Cond.methodLink RJ2 48 yJ2_length_9d52b, Cond.static yJ2_length_9d52b, Cond.code yJ2_length_9d52b cJ2_length_9d52b 1 (some .int), Cond.methodLink RJ2 414 yJ0_checkIndex_df160]
def wsX6_read_r4 : List Cond := [Cond.methodLink RJ2 71 yJ2_getChar_3b067, Cond.static yJ2_getChar_3b067, Cond.code yJ2_getChar_3b067 cJ2_getChar_3b067 2 (some .char), Cond.fieldLink RJ2 44 "java/lang/StringUTF16" "$assertionsDisabled" "Z", Cond.fieldLink RJ2 59 "java/lang/StringUTF16" "HI_BYTE_SHIFT" "I", Cond.fieldLink RJ2 63 "java/lang/StringUTF16" "LO_BYTE_SHIFT" "I", Cond.methodLink RX6 62 yX6_mark, Cond.instanceMethod yX6_mark, Cond.selects RX6 yX6_mark yX6_mark, Cond.code yX6_mark cX6_mark 3 none, Cond.methodLink RX6 66 yX6_readReturn, Cond.instanceMethod yX6_readReturn, Cond.selects RX6 yX6_readReturn yX6_readReturn, Cond.code yX6_readReturn cX6_readReturn 1 none, Cond.fieldLink RX6 80 "FeastLedger$TextReader" "returnTimes" "I", Cond.fieldLink RX6 86 "FeastLedger$TextReader" "within" "I", Cond.methodLink RX6 72 yX6_readNumber, Cond.instanceMethod yX6_readNumber, Cond.selects RX6 yX6_readNumber yX6_readNumber, Cond.code yX6_readNumber cX6_readNumber 4 (some .int), Cond.methodLink RX6 93 Lib.Math.min.name, Cond.static Lib.Math.min.name, Cond.initialized "java/lang/Math", Cond.code Lib.Math.min.name Lib.Math.min.code 2 (some .int)]
def wsX6_read_r5 : List Cond := [Cond.methodLink RX6 76 yX6_readSign, Cond.instanceMethod yX6_readSign, Cond.selects RX6 yX6_readSign yX6_readSign, Cond.code yX6_readSign cX6_readSign 2 none, Cond.methodLink RX6 83 yX6_readWithin, Cond.instanceMethod yX6_readWithin, Cond.selects RX6 yX6_readWithin yX6_readWithin, Cond.code yX6_readWithin cX6_readWithin 2 none, Cond.methodLink RX6 69 yX6_readLoan, Cond.instanceMethod yX6_readLoan, Cond.selects RX6 yX6_readLoan yX6_readLoan, Cond.code yX6_readLoan cX6_readLoan 1 none, Cond.fieldLink RX6 89 "FeastLedger$TextReader" "loanTimes" "I"]
def wsX6_read : List Cond := .code yX6_read cX6_read 4 none :: ((wsX6_read_r1 ++ (wsX6_read_r2 ++ (wsX6_read_r3 ++ (wsX6_read_r4 ++ wsX6_read_r5)))) ++ wsX60)
def wsX7_init_r1 : List Cond := [Cond.methodLink RX7 1 objectInit, Cond.instanceMethod objectInit, Cond.code objectInit ⟨#[0xb1]⟩ 1 none, Cond.classLink RX7 7 RX5, Cond.instantiable RX5 2, Cond.initialized RX5, Cond.fieldLink RX7 10 "FeastLedger" "tape" "LFeastLedger$Tape;", Cond.classLink RX7 16 RX6, Cond.instantiable RX6 11, Cond.initialized RX6, Cond.fieldLink RX7 19 "FeastLedger" "reader" "LFeastLedger$TextReader;", Cond.classLink RX7 23 RX2, Cond.instantiable RX2 8, Cond.initialized RX2, Cond.fieldLink RX7 26 "FeastLedger" "customs" "LFeastLedger$Customs;", Cond.classLink RX7 30 RX0, Cond.instantiable RX0 4, Cond.initialized RX0, Cond.fieldLink RX7 33 "FeastLedger" "chiefs" "LFeastLedger$Chiefs;", Cond.classLink RX7 37 RX3, Cond.instantiable RX3 5, Cond.initialized RX3, Cond.fieldLink RX7 40 "FeastLedger" "debts" "LFeastLedger$Debts;", Cond.classLink RX7 44 RX1]
def wsX7_init_r2 : List Cond := [Cond.instantiable RX1 4, Cond.initialized RX1, Cond.fieldLink RX7 47 "FeastLedger" "coppers" "LFeastLedger$Coppers;", Cond.classLink RX7 51 RX4, Cond.instantiable RX4 5, Cond.initialized RX4, Cond.fieldLink RX7 54 "FeastLedger" "gathering" "LFeastLedger$Gathering;", Cond.fieldLink RX7 58 "FeastLedger" "now" "I", Cond.fieldLink RX7 62 "FeastLedger" "faultPlace" "I", Cond.instanceMethod yX5_init, Cond.code yX5_init cX5_init 1 none, Cond.methodLink RX5 3 objectInit, Cond.arrayClass .byte, Cond.fieldLink RX5 9 "FeastLedger$Tape" "bytes" "[B", Cond.fieldLink RX5 15 "FeastLedger$Tape" "length" "I", Cond.instanceMethod yX6_init, Cond.code yX6_init cX6_init 1 none, Cond.methodLink RX6 3 objectInit, Cond.fieldLink RX6 9 "FeastLedger$TextReader" "text" "[B", Cond.instanceMethod yX2_init, Cond.code yX2_init cX2_init 1 none, Cond.methodLink RX2 3 objectInit, Cond.arrayClass .int, Cond.fieldLink RX2 9 "FeastLedger$Customs" "fromYear" "[I"]
def wsX7_init_r3 : List Cond := [Cond.fieldLink RX2 15 "FeastLedger$Customs" "returnTimes" "[I", Cond.fieldLink RX2 18 "FeastLedger$Customs" "returnBy" "[I", Cond.fieldLink RX2 21 "FeastLedger$Customs" "within" "[I", Cond.fieldLink RX2 24 "FeastLedger$Customs" "loanTimes" "[I", Cond.fieldLink RX2 27 "FeastLedger$Customs" "loanBy" "[I", Cond.fieldLink RX2 30 "FeastLedger$Customs" "witness" "[I", Cond.fieldLink RX2 33 "FeastLedger$Customs" "size" "I", Cond.instanceMethod yX0_init, Cond.code yX0_init cX0_init 1 none, Cond.methodLink RX0 3 objectInit, Cond.fieldLink RX0 9 "FeastLedger$Chiefs" "blankets" "[I", Cond.arrayClass .long, Cond.fieldLink RX0 15 "FeastLedger$Chiefs" "fame" "[J", Cond.arrayClass .boolean, Cond.fieldLink RX0 19 "FeastLedger$Chiefs" "lives" "[Z", Cond.fieldLink RX0 23 "FeastLedger$Chiefs" "size" "I", Cond.instanceMethod yX3_init, Cond.code yX3_init cX3_init 1 none, Cond.methodLink RX3 3 objectInit, Cond.fieldLink RX3 9 "FeastLedger$Debts" "debtor" "[I", Cond.fieldLink RX3 15 "FeastLedger$Debts" "creditor" "[I", Cond.fieldLink RX3 18 "FeastLedger$Debts" "left" "[I", Cond.fieldLink RX3 21 "FeastLedger$Debts" "due" "[I", Cond.fieldLink RX3 24 "FeastLedger$Debts" "size" "I"]
def wsX7_init_r4 : List Cond := [Cond.instanceMethod yX1_init, Cond.code yX1_init cX1_init 1 none, Cond.methodLink RX1 3 objectInit, Cond.fieldLink RX1 9 "FeastLedger$Coppers" "owner" "[I", Cond.fieldLink RX1 15 "FeastLedger$Coppers" "firstWorth" "[I", Cond.fieldLink RX1 18 "FeastLedger$Coppers" "worth" "[I", Cond.fieldLink RX1 21 "FeastLedger$Coppers" "size" "I", Cond.instanceMethod yX4_init, Cond.code yX4_init cX4_init 1 none, Cond.methodLink RX4 3 objectInit, Cond.fieldLink RX4 9 "FeastLedger$Gathering" "stock" "[J", Cond.classLink RX4 15 "[[J", Cond.fieldLink RX4 17 "FeastLedger$Gathering" "open" "[[J", Cond.fieldLink RX4 20 "FeastLedger$Gathering" "found" "[Z", Cond.fieldLink RX4 24 "FeastLedger$Gathering" "next" "[I", Cond.fieldLink RX4 28 "FeastLedger$Gathering" "queue" "[I"]
def wsX7_init : List Cond := .code yX7_init cX7_init 1 none :: ((wsX7_init_r1 ++ (wsX7_init_r2 ++ (wsX7_init_r3 ++ wsX7_init_r4))) ++ wsX50 ++ wsX70 ++ wsX60 ++ wsX20 ++ wsX00 ++ wsX30 ++ wsX10 ++ wsX40)
def wsX7_chief : List Cond := .code yX7_chief cX7_chief 2 (some .int) :: ([.classLink RX7 66 "java/lang/IllegalArgumentException", .initialized "java/lang/IllegalArgumentException", .classLink RX7 76 "java/lang/IllegalStateException", .initialized "java/lang/IllegalStateException", .constant RX7 65 (1000000), .fieldLink RX7 33 "FeastLedger" "chiefs" "LFeastLedger$Chiefs;", .fieldLink RX7 73 "FeastLedger$Chiefs" "size" "I", .methodLink RX7 81 yX0_add, .instanceMethod yX0_add, .selects RX0 yX0_add yX0_add, .initialized RX0, .code yX0_add cX0_add 2 (some .int), .fieldLink RX0 9 "FeastLedger$Chiefs" "blankets" "[I", .fieldLink RX0 23 "FeastLedger$Chiefs" "size" "I", .fieldLink RX0 19 "FeastLedger$Chiefs" "lives" "[Z"] ++ wsX70 ++ wsX00 ++ (vx_atS RX7 70 "java/lang/IllegalArgumentException" ["java/lang/RuntimeException", "java/lang/Exception"]).filter goodWord ++ (vx_atS RX7 80 "java/lang/IllegalStateException" ["java/lang/RuntimeException", "java/lang/Exception"]).filter goodWord)
def wsX7_feed : List Cond := .code yX7_feed cX7_feed 6 (some .int) :: ([.fieldLink RX7 10 "FeastLedger" "tape" "LFeastLedger$Tape;", .fieldLink RX7 85 "FeastLedger$Tape" "length" "I", .methodLink RX7 88 yX5_append, .instanceMethod yX5_append, .selects RX5 yX5_append yX5_append, .initialized RX5, .code yX5_append cX5_append 3 none, .fieldLink RX5 9 "FeastLedger$Tape" "bytes" "[B", .fieldLink RX5 15 "FeastLedger$Tape" "length" "I"] ++ wsX70 ++ wsX50)
def wsX7_custom_r1 : List Cond := [Cond.classLink RX7 66 "java/lang/IllegalArgumentException", Cond.initialized "java/lang/IllegalArgumentException", Cond.classLink RX7 76 "java/lang/IllegalStateException", Cond.initialized "java/lang/IllegalStateException", Cond.fieldLink RX7 10 "FeastLedger" "tape" "LFeastLedger$Tape;", Cond.fieldLink RX7 85 "FeastLedger$Tape" "length" "I", Cond.fieldLink RX7 26 "FeastLedger" "customs" "LFeastLedger$Customs;", Cond.fieldLink RX7 94 "FeastLedger$Customs" "size" "I", Cond.fieldLink RX7 19 "FeastLedger" "reader" "LFeastLedger$TextReader;", Cond.fieldLink RX7 97 "FeastLedger$Tape" "bytes" "[B", Cond.fieldLink RX7 105 "FeastLedger$TextReader" "faultPlace" "I", Cond.fieldLink RX7 62 "FeastLedger" "faultPlace" "I", Cond.fieldLink RX7 106 "FeastLedger$TextReader" "fault" "I", Cond.methodLink RX7 101 yX6_read, Cond.instanceMethod yX6_read, Cond.selects RX6 yX6_read yX6_read, Cond.initialized RX6, Cond.code yX6_read cX6_read 4 none, Cond.fieldLink RX6 9 "FeastLedger$TextReader" "text" "[B", Cond.methodLink RX6 15 arraycopyName, Cond.native arraycopyName, Cond.static arraycopyName, Cond.initialized "java/lang/System", Cond.fieldLink RX6 21 "FeastLedger$TextReader" "length" "I"]
def wsX7_custom_r2 : List Cond := [Cond.fieldLink RX6 25 "FeastLedger$TextReader" "at" "I", Cond.fieldLink RX6 28 "FeastLedger$TextReader" "fault" "I", Cond.fieldLink RX6 31 "FeastLedger$TextReader" "faultPlace" "I", Cond.fieldLink RX6 34 "FeastLedger$TextReader" "returnBy" "I", Cond.fieldLink RX6 37 "FeastLedger$TextReader" "loanBy" "I", Cond.fieldLink RX6 40 "FeastLedger$TextReader" "witness" "I", Cond.methodLink RX6 43 yX6_skipBlanks, Cond.instanceMethod yX6_skipBlanks, Cond.selects RX6 yX6_skipBlanks yX6_skipBlanks, Cond.code yX6_skipBlanks cX6_skipBlanks 1 none, Cond.methodLink RX6 46 yX6_readClause, Cond.instanceMethod yX6_readClause, Cond.selects RX6 yX6_readClause yX6_readClause, Cond.code yX6_readClause cX6_readClause 6 none, Cond.methodLink RX6 50 yX6_skipLetters, Cond.instanceMethod yX6_skipLetters, Cond.selects RX6 yX6_skipLetters yX6_skipLetters, Cond.code yX6_skipLetters cX6_skipLetters 1 none, Cond.methodLink RX6 55 yX6_spells, Cond.instanceMethod yX6_spells, Cond.selects RX6 yX6_spells yX6_spells, Cond.code yX6_spells cX6_spells 4 (some .boolean), Cond.methodLink RX6 99 yJ0_length_8abf5, Cond.instanceMethod yJ0_length_8abf5]
def wsX7_custom_r3 : List Cond := [Cond.selects RJ0 yJ0_length_8abf5 yJ0_length_8abf5, Cond.initialized RJ0, Cond.code yJ0_length_8abf5 cJ0_length_8abf5 1 (some .int), Cond.fieldLink RJ0 9 "java/lang/String" "value" "[B", Cond.methodLink RJ0 335 yJ0_coder_7d493, Cond.instanceMethod yJ0_coder_7d493, Cond.selects RJ0 yJ0_coder_7d493 yJ0_coder_7d493, Cond.code yJ0_coder_7d493 cJ0_coder_7d493 1 (some .byte), Cond.fieldLink RJ0 38 "java/lang/String" "COMPACT_STRINGS" "Z", Cond.fieldLink RJ0 15 "java/lang/String" "coder" "B", Cond.methodLink RX6 104 yJ0_charAt_5068e, Cond.instanceMethod yJ0_charAt_5068e, Cond.selects RJ0 yJ0_charAt_5068e yJ0_charAt_5068e, Cond.code yJ0_charAt_5068e cJ0_charAt_5068e 2 (some .char), Cond.methodLink RJ0 492 yJ0_isLatin1_aae02, Cond.instanceMethod yJ0_isLatin1_aae02, Cond.selects RJ0 yJ0_isLatin1_aae02 yJ0_isLatin1_aae02, Cond.code yJ0_isLatin1_aae02 cJ0_isLatin1_aae02 1 (some .boolean), Cond.methodLink RJ0 495 yJ1_charAt_3b067, Cond.static yJ1_charAt_3b067, Cond.initialized RJ1, Cond.code yJ1_charAt_3b067 cJ1_charAt_3b067 2 (some .char), Cond.methodLink RJ1 9 yJ0_checkIndex_df160, Cond.static yJ0_checkIndex_df160]
def wsX7_custom_r4 : List Cond := [Cond.code yJ0_checkIndex_df160 cJ0_checkIndex_df160 2 none, Cond.fieldLink RJ0 1053 "jdk/internal/util/Preconditions" "SIOOBE_FORMATTER" "Ljava/util/function/BiFunction;", Cond.methodLink RJ0 1059 yJ3_checkIndex_8e157, Cond.static yJ3_checkIndex_8e157, Cond.initialized RJ3, Cond.code yJ3_checkIndex_8e157 cJ3_checkIndex_8e157 3 (some .int), Cond.methodLink RJ0 498 yJ2_charAt_3b067, Cond.static yJ2_charAt_3b067, Cond.initialized RJ2, Cond.code yJ2_charAt_3b067 cJ2_charAt_3b067 2 (some .char), Cond.methodLink RJ2 67 yJ2_checkIndex_2214a, Cond.static yJ2_checkIndex_2214a, Cond.code yJ2_checkIndex_2214a cJ2_checkIndex_2214a 2 none, Cond.methodLink RJ2 48 yJ2_length_9d52b, Cond.static yJ2_length_9d52b, Cond.code yJ2_length_9d52b cJ2_length_9d52b 1 (some .int), Cond.methodLink RJ2 414 yJ0_checkIndex_df160, Cond.methodLink RJ2 71 yJ2_getChar_3b067, Cond.static yJ2_getChar_3b067, Cond.code yJ2_getChar_3b067 cJ2_getChar_3b067 2 (some .char), Cond.fieldLink RJ2 44 "java/lang/StringUTF16" "$assertionsDisabled" "Z", Cond.fieldLink RJ2 59 "java/lang/StringUTF16" "HI_BYTE_SHIFT" "I", Cond.fieldLink RJ2 63 "java/lang/StringUTF16" "LO_BYTE_SHIFT" "I", Cond.methodLink RX6 62 yX6_mark]
def wsX7_custom_r5 : List Cond := [Cond.instanceMethod yX6_mark, Cond.selects RX6 yX6_mark yX6_mark, Cond.code yX6_mark cX6_mark 3 none, Cond.methodLink RX6 66 yX6_readReturn, Cond.instanceMethod yX6_readReturn, Cond.selects RX6 yX6_readReturn yX6_readReturn, Cond.code yX6_readReturn cX6_readReturn 1 none, Cond.fieldLink RX6 80 "FeastLedger$TextReader" "returnTimes" "I", Cond.fieldLink RX6 86 "FeastLedger$TextReader" "within" "I", Cond.methodLink RX6 72 yX6_readNumber, Cond.instanceMethod yX6_readNumber, Cond.selects RX6 yX6_readNumber yX6_readNumber, Cond.code yX6_readNumber cX6_readNumber 4 (some .int), Cond.methodLink RX6 93 Lib.Math.min.name, Cond.static Lib.Math.min.name, Cond.initialized "java/lang/Math", Cond.code Lib.Math.min.name Lib.Math.min.code 2 (some .int), Cond.methodLink RX6 76 yX6_readSign, Cond.instanceMethod yX6_readSign, Cond.selects RX6 yX6_readSign yX6_readSign, Cond.code yX6_readSign cX6_readSign 2 none, Cond.methodLink RX6 83 yX6_readWithin, Cond.instanceMethod yX6_readWithin, Cond.selects RX6 yX6_readWithin yX6_readWithin]
def wsX7_custom_r6 : List Cond := [Cond.code yX6_readWithin cX6_readWithin 2 none, Cond.methodLink RX6 69 yX6_readLoan, Cond.instanceMethod yX6_readLoan, Cond.selects RX6 yX6_readLoan yX6_readLoan, Cond.code yX6_readLoan cX6_readLoan 1 none, Cond.fieldLink RX6 89 "FeastLedger$TextReader" "loanTimes" "I", Cond.methodLink RX7 109 yX2_add, Cond.instanceMethod yX2_add, Cond.selects RX2 yX2_add yX2_add, Cond.initialized RX2, Cond.code yX2_add cX2_add 3 (some .int), Cond.fieldLink RX2 9 "FeastLedger$Customs" "fromYear" "[I", Cond.fieldLink RX2 33 "FeastLedger$Customs" "size" "I", Cond.fieldLink RX2 15 "FeastLedger$Customs" "returnTimes" "[I", Cond.fieldLink RX2 37 "FeastLedger$TextReader" "returnTimes" "I", Cond.fieldLink RX2 18 "FeastLedger$Customs" "returnBy" "[I", Cond.fieldLink RX2 41 "FeastLedger$TextReader" "returnBy" "I", Cond.fieldLink RX2 21 "FeastLedger$Customs" "within" "[I", Cond.fieldLink RX2 43 "FeastLedger$TextReader" "within" "I", Cond.fieldLink RX2 24 "FeastLedger$Customs" "loanTimes" "[I", Cond.fieldLink RX2 45 "FeastLedger$TextReader" "loanTimes" "I", Cond.fieldLink RX2 27 "FeastLedger$Customs" "loanBy" "[I", Cond.fieldLink RX2 47 "FeastLedger$TextReader" "loanBy" "I", Cond.fieldLink RX2 30 "FeastLedger$Customs" "witness" "[I"]
def wsX7_custom_r7 : List Cond := [Cond.fieldLink RX2 49 "FeastLedger$TextReader" "witness" "I"]
def wsX7_custom : List Cond := .code yX7_custom cX7_custom 3 (some .int) :: ((wsX7_custom_r1 ++ (wsX7_custom_r2 ++ (wsX7_custom_r3 ++ (wsX7_custom_r4 ++ (wsX7_custom_r5 ++ (wsX7_custom_r6 ++ wsX7_custom_r7)))))) ++ wsX70 ++ wsX50 ++ wsX20 ++ wsX60 ++ (vx_atS RX7 70 "java/lang/IllegalArgumentException" ["java/lang/RuntimeException", "java/lang/Exception"]).filter goodWord ++ (vx_atS RX7 80 "java/lang/IllegalStateException" ["java/lang/RuntimeException", "java/lang/Exception"]).filter goodWord)
def wsX7_fault : List Cond := .code yX7_fault cX7_fault 1 (some .int) :: ([.fieldLink RX7 62 "FeastLedger" "faultPlace" "I"] ++ wsX70)
def wsX7_force : List Cond := .code yX7_force cX7_force 2 (some .int) :: ([.fieldLink RX7 26 "FeastLedger" "customs" "LFeastLedger$Customs;", .methodLink RX7 112 yX2_inForce, .instanceMethod yX2_inForce, .selects RX2 yX2_inForce yX2_inForce, .initialized RX2, .code yX2_inForce cX2_inForce 4 (some .int), .fieldLink RX2 33 "FeastLedger$Customs" "size" "I", .fieldLink RX2 9 "FeastLedger$Customs" "fromYear" "[I"] ++ wsX70 ++ wsX20)
def wsX7_checkChief : List Cond := .code yX7_checkChief cX7_checkChief 2 none :: ([.classLink RX7 207 "java/lang/IndexOutOfBoundsException", .initialized "java/lang/IndexOutOfBoundsException", .fieldLink RX7 33 "FeastLedger" "chiefs" "LFeastLedger$Chiefs;", .fieldLink RX7 73 "FeastLedger$Chiefs" "size" "I"] ++ wsX70 ++ wsX00 ++ (vx_atS RX7 211 "java/lang/IndexOutOfBoundsException" ["java/lang/RuntimeException", "java/lang/Exception"]).filter goodWord)
def wsX7_checkLives : List Cond := .code yX7_checkLives cX7_checkLives 2 none :: ([.classLink RX7 76 "java/lang/IllegalStateException", .initialized "java/lang/IllegalStateException", .fieldLink RX7 33 "FeastLedger" "chiefs" "LFeastLedger$Chiefs;", .fieldLink RX7 191 "FeastLedger$Chiefs" "lives" "[Z"] ++ wsX70 ++ wsX00 ++ (vx_atS RX7 80 "java/lang/IllegalStateException" ["java/lang/RuntimeException", "java/lang/Exception"]).filter goodWord)
def wsX7_checkHandingOver : List Cond := .code yX7_checkHandingOver cX7_checkHandingOver 4 none :: ([.classLink RX7 66 "java/lang/IllegalArgumentException", .initialized "java/lang/IllegalArgumentException", .methodLink RX7 140 yX7_checkChief, .instanceMethod yX7_checkChief, .selects RX7 yX7_checkChief yX7_checkChief, .initialized RX7, .code yX7_checkChief cX7_checkChief 2 none, .classLink RX7 207 "java/lang/IndexOutOfBoundsException", .initialized "java/lang/IndexOutOfBoundsException", .fieldLink RX7 33 "FeastLedger" "chiefs" "LFeastLedger$Chiefs;", .fieldLink RX7 73 "FeastLedger$Chiefs" "size" "I", .methodLink RX7 145 yX7_checkLives, .instanceMethod yX7_checkLives, .selects RX7 yX7_checkLives yX7_checkLives, .code yX7_checkLives cX7_checkLives 2 none, .classLink RX7 76 "java/lang/IllegalStateException", .initialized "java/lang/IllegalStateException", .fieldLink RX7 191 "FeastLedger$Chiefs" "lives" "[Z"] ++ wsX70 ++ wsX00 ++ (vx_atS RX7 70 "java/lang/IllegalArgumentException" ["java/lang/RuntimeException", "java/lang/Exception"]).filter goodWord ++ (vx_atS RX7 211 "java/lang/IndexOutOfBoundsException" ["java/lang/RuntimeException", "java/lang/Exception"]).filter goodWord ++ (vx_atS RX7 80 "java/lang/IllegalStateException" ["java/lang/RuntimeException", "java/lang/Exception"]).filter goodWord)
def wsX7_debtsMadeBy_r1 : List Cond := [Cond.fieldLink RX7 40 "FeastLedger" "debts" "LFeastLedger$Debts;", Cond.methodLink RX7 275 Lib.MathLoose.min_long.x, Cond.static Lib.MathLoose.min_long.x, Cond.initialized "java/lang/Math", Cond.code Lib.MathLoose.min_long.x Lib.MathLoose.min_long.code 4 (some .long), Cond.fieldLink RX7 26 "FeastLedger" "customs" "LFeastLedger$Customs;", Cond.fieldLink RX7 58 "FeastLedger" "now" "I", Cond.methodLink RX7 271 yX3_owed, Cond.instanceMethod yX3_owed, Cond.selects RX3 yX3_owed yX3_owed, Cond.initialized RX3, Cond.code yX3_owed cX3_owed 6 (some .long), Cond.fieldLink RX3 24 "FeastLedger$Debts" "size" "I", Cond.fieldLink RX3 18 "FeastLedger$Debts" "left" "[I", Cond.methodLink RX3 32 yX3_isOpenBetween, Cond.instanceMethod yX3_isOpenBetween, Cond.selects RX3 yX3_isOpenBetween yX3_isOpenBetween, Cond.code yX3_isOpenBetween cX3_isOpenBetween 4 (some .boolean), Cond.fieldLink RX3 9 "FeastLedger$Debts" "debtor" "[I", Cond.fieldLink RX3 15 "FeastLedger$Debts" "creditor" "[I", Cond.methodLink RX7 112 yX2_inForce, Cond.instanceMethod yX2_inForce, Cond.selects RX2 yX2_inForce yX2_inForce, Cond.initialized RX2]
def wsX7_debtsMadeBy_r2 : List Cond := [Cond.code yX2_inForce cX2_inForce 4 (some .int), Cond.fieldLink RX2 33 "FeastLedger$Customs" "size" "I", Cond.fieldLink RX2 9 "FeastLedger$Customs" "fromYear" "[I", Cond.methodLink RX7 281 yX2_askedFor, Cond.instanceMethod yX2_askedFor, Cond.selects RX2 yX2_askedFor yX2_askedFor, Cond.code yX2_askedFor cX2_askedFor 7 (some .int), Cond.fieldLink RX2 18 "FeastLedger$Customs" "returnBy" "[I", Cond.fieldLink RX2 15 "FeastLedger$Customs" "returnTimes" "[I", Cond.constantLong RX2 51 (1000000000), Cond.methodLink RX2 53 Lib.MathLoose.min_long.x]
def wsX7_debtsMadeBy : List Cond := .code yX7_debtsMadeBy cX7_debtsMadeBy 6 (some .int) :: ((wsX7_debtsMadeBy_r1 ++ wsX7_debtsMadeBy_r2) ++ wsX70 ++ wsX30 ++ wsX20)
def wsX7_recordGiven_r1 : List Cond := [Cond.fieldLink RX7 40 "FeastLedger" "debts" "LFeastLedger$Debts;", Cond.fieldLink RX7 33 "FeastLedger" "chiefs" "LFeastLedger$Chiefs;", Cond.fieldLink RX7 238 "FeastLedger$Chiefs" "fame" "[J", Cond.fieldLink RX7 26 "FeastLedger" "customs" "LFeastLedger$Customs;", Cond.fieldLink RX7 58 "FeastLedger" "now" "I", Cond.methodLink RX7 285 yX3_answer, Cond.instanceMethod yX3_answer, Cond.selects RX3 yX3_answer yX3_answer, Cond.initialized RX3, Cond.code yX3_answer cX3_answer 8 (some .int), Cond.fieldLink RX3 24 "FeastLedger$Debts" "size" "I", Cond.fieldLink RX3 18 "FeastLedger$Debts" "left" "[I", Cond.methodLink RX3 40 Lib.Math.min.name, Cond.static Lib.Math.min.name, Cond.initialized "java/lang/Math", Cond.code Lib.Math.min.name Lib.Math.min.code 2 (some .int), Cond.methodLink RX3 36 yX3_firstToAnswer, Cond.instanceMethod yX3_firstToAnswer, Cond.selects RX3 yX3_firstToAnswer yX3_firstToAnswer, Cond.code yX3_firstToAnswer cX3_firstToAnswer 5 (some .int), Cond.methodLink RX3 32 yX3_isOpenBetween, Cond.instanceMethod yX3_isOpenBetween, Cond.selects RX3 yX3_isOpenBetween yX3_isOpenBetween, Cond.code yX3_isOpenBetween cX3_isOpenBetween 4 (some .boolean)]
def wsX7_recordGiven_r2 : List Cond := [Cond.fieldLink RX3 9 "FeastLedger$Debts" "debtor" "[I", Cond.fieldLink RX3 15 "FeastLedger$Debts" "creditor" "[I", Cond.methodLink RX3 45 yX3_turn, Cond.instanceMethod yX3_turn, Cond.selects RX3 yX3_turn yX3_turn, Cond.code yX3_turn cX3_turn 2 (some .int), Cond.constant RX3 49 (1000000), Cond.fieldLink RX3 21 "FeastLedger$Debts" "due" "[I", Cond.methodLink RX3 28 yX3_isLoan, Cond.instanceMethod yX3_isLoan, Cond.selects RX3 yX3_isLoan yX3_isLoan, Cond.code yX3_isLoan cX3_isLoan 2 (some .boolean), Cond.methodLink RX7 112 yX2_inForce, Cond.instanceMethod yX2_inForce, Cond.selects RX2 yX2_inForce yX2_inForce, Cond.initialized RX2, Cond.code yX2_inForce cX2_inForce 4 (some .int), Cond.fieldLink RX2 33 "FeastLedger$Customs" "size" "I", Cond.fieldLink RX2 9 "FeastLedger$Customs" "fromYear" "[I", Cond.methodLink RX7 281 yX2_askedFor, Cond.instanceMethod yX2_askedFor, Cond.selects RX2 yX2_askedFor yX2_askedFor, Cond.code yX2_askedFor cX2_askedFor 7 (some .int), Cond.fieldLink RX2 18 "FeastLedger$Customs" "returnBy" "[I"]
def wsX7_recordGiven_r3 : List Cond := [Cond.fieldLink RX2 15 "FeastLedger$Customs" "returnTimes" "[I", Cond.constantLong RX2 51 (1000000000), Cond.methodLink RX2 53 Lib.MathLoose.min_long.x, Cond.static Lib.MathLoose.min_long.x, Cond.code Lib.MathLoose.min_long.x Lib.MathLoose.min_long.code 4 (some .long), Cond.methodLink RX7 288 yX2_yearsToAnswer, Cond.instanceMethod yX2_yearsToAnswer, Cond.selects RX2 yX2_yearsToAnswer yX2_yearsToAnswer, Cond.code yX2_yearsToAnswer cX2_yearsToAnswer 2 (some .int), Cond.fieldLink RX2 21 "FeastLedger$Customs" "within" "[I", Cond.methodLink RX7 137 yX3_add, Cond.instanceMethod yX3_add, Cond.selects RX3 yX3_add yX3_add, Cond.code yX3_add cX3_add 5 (some .int)]
def wsX7_recordGiven : List Cond := .code yX7_recordGiven cX7_recordGiven 7 (some .int) :: ((wsX7_recordGiven_r1 ++ (wsX7_recordGiven_r2 ++ wsX7_recordGiven_r3)) ++ wsX70 ++ wsX00 ++ wsX30 ++ wsX20)
def wsX7_give_r1 : List Cond := [Cond.fieldLink RX7 33 "FeastLedger" "chiefs" "LFeastLedger$Chiefs;", Cond.fieldLink RX7 119 "FeastLedger$Chiefs" "blankets" "[I", Cond.fieldLink RX7 40 "FeastLedger" "debts" "LFeastLedger$Debts;", Cond.methodLink RX7 115 yX7_checkHandingOver, Cond.instanceMethod yX7_checkHandingOver, Cond.selects RX7 yX7_checkHandingOver yX7_checkHandingOver, Cond.initialized RX7, Cond.code yX7_checkHandingOver cX7_checkHandingOver 4 none, Cond.classLink RX7 66 "java/lang/IllegalArgumentException", Cond.initialized "java/lang/IllegalArgumentException", Cond.methodLink RX7 140 yX7_checkChief, Cond.instanceMethod yX7_checkChief, Cond.selects RX7 yX7_checkChief yX7_checkChief, Cond.code yX7_checkChief cX7_checkChief 2 none, Cond.classLink RX7 207 "java/lang/IndexOutOfBoundsException", Cond.initialized "java/lang/IndexOutOfBoundsException", Cond.fieldLink RX7 73 "FeastLedger$Chiefs" "size" "I", Cond.methodLink RX7 145 yX7_checkLives, Cond.instanceMethod yX7_checkLives, Cond.selects RX7 yX7_checkLives yX7_checkLives, Cond.code yX7_checkLives cX7_checkLives 2 none, Cond.classLink RX7 76 "java/lang/IllegalStateException", Cond.initialized "java/lang/IllegalStateException", Cond.fieldLink RX7 191 "FeastLedger$Chiefs" "lives" "[Z"]
def wsX7_give_r2 : List Cond := [Cond.methodLink RX7 123 yX7_debtsMadeBy, Cond.instanceMethod yX7_debtsMadeBy, Cond.selects RX7 yX7_debtsMadeBy yX7_debtsMadeBy, Cond.code yX7_debtsMadeBy cX7_debtsMadeBy 6 (some .int), Cond.methodLink RX7 275 Lib.MathLoose.min_long.x, Cond.static Lib.MathLoose.min_long.x, Cond.initialized "java/lang/Math", Cond.code Lib.MathLoose.min_long.x Lib.MathLoose.min_long.code 4 (some .long), Cond.fieldLink RX7 26 "FeastLedger" "customs" "LFeastLedger$Customs;", Cond.fieldLink RX7 58 "FeastLedger" "now" "I", Cond.methodLink RX7 271 yX3_owed, Cond.instanceMethod yX3_owed, Cond.selects RX3 yX3_owed yX3_owed, Cond.initialized RX3, Cond.code yX3_owed cX3_owed 6 (some .long), Cond.fieldLink RX3 24 "FeastLedger$Debts" "size" "I", Cond.fieldLink RX3 18 "FeastLedger$Debts" "left" "[I", Cond.methodLink RX3 32 yX3_isOpenBetween, Cond.instanceMethod yX3_isOpenBetween, Cond.selects RX3 yX3_isOpenBetween yX3_isOpenBetween, Cond.code yX3_isOpenBetween cX3_isOpenBetween 4 (some .boolean), Cond.fieldLink RX3 9 "FeastLedger$Debts" "debtor" "[I", Cond.fieldLink RX3 15 "FeastLedger$Debts" "creditor" "[I", Cond.methodLink RX7 112 yX2_inForce]
def wsX7_give_r3 : List Cond := [Cond.instanceMethod yX2_inForce, Cond.selects RX2 yX2_inForce yX2_inForce, Cond.initialized RX2, Cond.code yX2_inForce cX2_inForce 4 (some .int), Cond.fieldLink RX2 33 "FeastLedger$Customs" "size" "I", Cond.fieldLink RX2 9 "FeastLedger$Customs" "fromYear" "[I", Cond.methodLink RX7 281 yX2_askedFor, Cond.instanceMethod yX2_askedFor, Cond.selects RX2 yX2_askedFor yX2_askedFor, Cond.code yX2_askedFor cX2_askedFor 7 (some .int), Cond.fieldLink RX2 18 "FeastLedger$Customs" "returnBy" "[I", Cond.fieldLink RX2 15 "FeastLedger$Customs" "returnTimes" "[I", Cond.constantLong RX2 51 (1000000000), Cond.methodLink RX2 53 Lib.MathLoose.min_long.x, Cond.methodLink RX7 127 yX3_room, Cond.instanceMethod yX3_room, Cond.selects RX3 yX3_room yX3_room, Cond.code yX3_room cX3_room 1 (some .int), Cond.methodLink RX7 131 yX0_moveBlankets, Cond.instanceMethod yX0_moveBlankets, Cond.selects RX0 yX0_moveBlankets yX0_moveBlankets, Cond.initialized RX0, Cond.code yX0_moveBlankets cX0_moveBlankets 4 none, Cond.fieldLink RX0 9 "FeastLedger$Chiefs" "blankets" "[I"]
def wsX7_give_r4 : List Cond := [Cond.methodLink RX7 134 yX7_recordGiven, Cond.instanceMethod yX7_recordGiven, Cond.selects RX7 yX7_recordGiven yX7_recordGiven, Cond.code yX7_recordGiven cX7_recordGiven 7 (some .int), Cond.fieldLink RX7 238 "FeastLedger$Chiefs" "fame" "[J", Cond.methodLink RX7 285 yX3_answer, Cond.instanceMethod yX3_answer, Cond.selects RX3 yX3_answer yX3_answer, Cond.code yX3_answer cX3_answer 8 (some .int), Cond.methodLink RX3 40 Lib.Math.min.name, Cond.static Lib.Math.min.name, Cond.code Lib.Math.min.name Lib.Math.min.code 2 (some .int), Cond.methodLink RX3 36 yX3_firstToAnswer, Cond.instanceMethod yX3_firstToAnswer, Cond.selects RX3 yX3_firstToAnswer yX3_firstToAnswer, Cond.code yX3_firstToAnswer cX3_firstToAnswer 5 (some .int), Cond.methodLink RX3 45 yX3_turn, Cond.instanceMethod yX3_turn, Cond.selects RX3 yX3_turn yX3_turn, Cond.code yX3_turn cX3_turn 2 (some .int), Cond.constant RX3 49 (1000000), Cond.fieldLink RX3 21 "FeastLedger$Debts" "due" "[I", Cond.methodLink RX3 28 yX3_isLoan, Cond.instanceMethod yX3_isLoan]
def wsX7_give_r5 : List Cond := [Cond.selects RX3 yX3_isLoan yX3_isLoan, Cond.code yX3_isLoan cX3_isLoan 2 (some .boolean), Cond.methodLink RX7 288 yX2_yearsToAnswer, Cond.instanceMethod yX2_yearsToAnswer, Cond.selects RX2 yX2_yearsToAnswer yX2_yearsToAnswer, Cond.code yX2_yearsToAnswer cX2_yearsToAnswer 2 (some .int), Cond.fieldLink RX2 21 "FeastLedger$Customs" "within" "[I", Cond.methodLink RX7 137 yX3_add, Cond.instanceMethod yX3_add, Cond.selects RX3 yX3_add yX3_add, Cond.code yX3_add cX3_add 5 (some .int)]
def wsX7_give : List Cond := .code yX7_give cX7_give 4 (some .int) :: ((wsX7_give_r1 ++ (wsX7_give_r2 ++ (wsX7_give_r3 ++ (wsX7_give_r4 ++ wsX7_give_r5)))) ++ wsX70 ++ wsX00 ++ wsX30 ++ wsX20 ++ (vx_atS RX7 70 "java/lang/IllegalArgumentException" ["java/lang/RuntimeException", "java/lang/Exception"]).filter goodWord ++ (vx_atS RX7 211 "java/lang/IndexOutOfBoundsException" ["java/lang/RuntimeException", "java/lang/Exception"]).filter goodWord ++ (vx_atS RX7 80 "java/lang/IllegalStateException" ["java/lang/RuntimeException", "java/lang/Exception"]).filter goodWord)
def wsX7_lend_r1 : List Cond := [Cond.fieldLink RX7 33 "FeastLedger" "chiefs" "LFeastLedger$Chiefs;", Cond.fieldLink RX7 119 "FeastLedger$Chiefs" "blankets" "[I", Cond.fieldLink RX7 40 "FeastLedger" "debts" "LFeastLedger$Debts;", Cond.methodLink RX7 115 yX7_checkHandingOver, Cond.instanceMethod yX7_checkHandingOver, Cond.selects RX7 yX7_checkHandingOver yX7_checkHandingOver, Cond.initialized RX7, Cond.code yX7_checkHandingOver cX7_checkHandingOver 4 none, Cond.classLink RX7 66 "java/lang/IllegalArgumentException", Cond.initialized "java/lang/IllegalArgumentException", Cond.methodLink RX7 140 yX7_checkChief, Cond.instanceMethod yX7_checkChief, Cond.selects RX7 yX7_checkChief yX7_checkChief, Cond.code yX7_checkChief cX7_checkChief 2 none, Cond.classLink RX7 207 "java/lang/IndexOutOfBoundsException", Cond.initialized "java/lang/IndexOutOfBoundsException", Cond.fieldLink RX7 73 "FeastLedger$Chiefs" "size" "I", Cond.methodLink RX7 145 yX7_checkLives, Cond.instanceMethod yX7_checkLives, Cond.selects RX7 yX7_checkLives yX7_checkLives, Cond.code yX7_checkLives cX7_checkLives 2 none, Cond.classLink RX7 76 "java/lang/IllegalStateException", Cond.initialized "java/lang/IllegalStateException", Cond.fieldLink RX7 191 "FeastLedger$Chiefs" "lives" "[Z"]
def wsX7_lend_r2 : List Cond := [Cond.methodLink RX7 127 yX3_room, Cond.instanceMethod yX3_room, Cond.selects RX3 yX3_room yX3_room, Cond.initialized RX3, Cond.code yX3_room cX3_room 1 (some .int), Cond.fieldLink RX3 24 "FeastLedger$Debts" "size" "I", Cond.methodLink RX7 131 yX0_moveBlankets, Cond.instanceMethod yX0_moveBlankets, Cond.selects RX0 yX0_moveBlankets yX0_moveBlankets, Cond.initialized RX0, Cond.code yX0_moveBlankets cX0_moveBlankets 4 none, Cond.fieldLink RX0 9 "FeastLedger$Chiefs" "blankets" "[I", Cond.methodLink RX7 137 yX3_add, Cond.instanceMethod yX3_add, Cond.selects RX3 yX3_add yX3_add, Cond.code yX3_add cX3_add 5 (some .int), Cond.fieldLink RX3 9 "FeastLedger$Debts" "debtor" "[I", Cond.fieldLink RX3 15 "FeastLedger$Debts" "creditor" "[I", Cond.fieldLink RX3 18 "FeastLedger$Debts" "left" "[I", Cond.fieldLink RX3 21 "FeastLedger$Debts" "due" "[I"]
def wsX7_lend : List Cond := .code yX7_lend cX7_lend 4 (some .int) :: ((wsX7_lend_r1 ++ wsX7_lend_r2) ++ wsX70 ++ wsX00 ++ wsX30 ++ (vx_atS RX7 70 "java/lang/IllegalArgumentException" ["java/lang/RuntimeException", "java/lang/Exception"]).filter goodWord ++ (vx_atS RX7 211 "java/lang/IndexOutOfBoundsException" ["java/lang/RuntimeException", "java/lang/Exception"]).filter goodWord ++ (vx_atS RX7 80 "java/lang/IllegalStateException" ["java/lang/RuntimeException", "java/lang/Exception"]).filter goodWord)
def wsX7_copper_r1 : List Cond := [Cond.classLink RX7 66 "java/lang/IllegalArgumentException", Cond.initialized "java/lang/IllegalArgumentException", Cond.classLink RX7 76 "java/lang/IllegalStateException", Cond.initialized "java/lang/IllegalStateException", Cond.constant RX7 65 (1000000), Cond.fieldLink RX7 47 "FeastLedger" "coppers" "LFeastLedger$Coppers;", Cond.fieldLink RX7 148 "FeastLedger$Coppers" "size" "I", Cond.methodLink RX7 140 yX7_checkChief, Cond.instanceMethod yX7_checkChief, Cond.selects RX7 yX7_checkChief yX7_checkChief, Cond.initialized RX7, Cond.code yX7_checkChief cX7_checkChief 2 none, Cond.classLink RX7 207 "java/lang/IndexOutOfBoundsException", Cond.initialized "java/lang/IndexOutOfBoundsException", Cond.fieldLink RX7 33 "FeastLedger" "chiefs" "LFeastLedger$Chiefs;", Cond.fieldLink RX7 73 "FeastLedger$Chiefs" "size" "I", Cond.methodLink RX7 145 yX7_checkLives, Cond.instanceMethod yX7_checkLives, Cond.selects RX7 yX7_checkLives yX7_checkLives, Cond.code yX7_checkLives cX7_checkLives 2 none, Cond.fieldLink RX7 191 "FeastLedger$Chiefs" "lives" "[Z", Cond.methodLink RX7 151 yX1_add, Cond.instanceMethod yX1_add, Cond.selects RX1 yX1_add yX1_add]
def wsX7_copper_r2 : List Cond := [Cond.initialized RX1, Cond.code yX1_add cX1_add 3 (some .int), Cond.fieldLink RX1 9 "FeastLedger$Coppers" "owner" "[I", Cond.fieldLink RX1 21 "FeastLedger$Coppers" "size" "I", Cond.fieldLink RX1 15 "FeastLedger$Coppers" "firstWorth" "[I", Cond.fieldLink RX1 18 "FeastLedger$Coppers" "worth" "[I"]
def wsX7_copper : List Cond := .code yX7_copper cX7_copper 3 (some .int) :: ((wsX7_copper_r1 ++ wsX7_copper_r2) ++ wsX70 ++ wsX10 ++ wsX00 ++ (vx_atS RX7 70 "java/lang/IllegalArgumentException" ["java/lang/RuntimeException", "java/lang/Exception"]).filter goodWord ++ (vx_atS RX7 80 "java/lang/IllegalStateException" ["java/lang/RuntimeException", "java/lang/Exception"]).filter goodWord ++ (vx_atS RX7 211 "java/lang/IndexOutOfBoundsException" ["java/lang/RuntimeException", "java/lang/Exception"]).filter goodWord)
def wsX7_checkCopper : List Cond := .code yX7_checkCopper cX7_checkCopper 2 none :: ([.classLink RX7 207 "java/lang/IndexOutOfBoundsException", .initialized "java/lang/IndexOutOfBoundsException", .fieldLink RX7 47 "FeastLedger" "coppers" "LFeastLedger$Coppers;", .fieldLink RX7 148 "FeastLedger$Coppers" "size" "I"] ++ wsX70 ++ wsX10 ++ (vx_atS RX7 211 "java/lang/IndexOutOfBoundsException" ["java/lang/RuntimeException", "java/lang/Exception"]).filter goodWord)
def wsX7_pass_r1 : List Cond := [Cond.classLink RX7 66 "java/lang/IllegalArgumentException", Cond.initialized "java/lang/IllegalArgumentException", Cond.fieldLink RX7 47 "FeastLedger" "coppers" "LFeastLedger$Coppers;", Cond.fieldLink RX7 157 "FeastLedger$Coppers" "owner" "[I", Cond.fieldLink RX7 162 "FeastLedger$Coppers" "worth" "[I", Cond.fieldLink RX7 40 "FeastLedger" "debts" "LFeastLedger$Debts;", Cond.methodLink RX7 154 yX7_checkCopper, Cond.instanceMethod yX7_checkCopper, Cond.selects RX7 yX7_checkCopper yX7_checkCopper, Cond.initialized RX7, Cond.code yX7_checkCopper cX7_checkCopper 2 none, Cond.classLink RX7 207 "java/lang/IndexOutOfBoundsException", Cond.initialized "java/lang/IndexOutOfBoundsException", Cond.fieldLink RX7 148 "FeastLedger$Coppers" "size" "I", Cond.methodLink RX7 140 yX7_checkChief, Cond.instanceMethod yX7_checkChief, Cond.selects RX7 yX7_checkChief yX7_checkChief, Cond.code yX7_checkChief cX7_checkChief 2 none, Cond.fieldLink RX7 33 "FeastLedger" "chiefs" "LFeastLedger$Chiefs;", Cond.fieldLink RX7 73 "FeastLedger$Chiefs" "size" "I", Cond.methodLink RX7 145 yX7_checkLives, Cond.instanceMethod yX7_checkLives, Cond.selects RX7 yX7_checkLives yX7_checkLives, Cond.code yX7_checkLives cX7_checkLives 2 none]
def wsX7_pass_r2 : List Cond := [Cond.classLink RX7 76 "java/lang/IllegalStateException", Cond.initialized "java/lang/IllegalStateException", Cond.fieldLink RX7 191 "FeastLedger$Chiefs" "lives" "[Z", Cond.methodLink RX7 123 yX7_debtsMadeBy, Cond.instanceMethod yX7_debtsMadeBy, Cond.selects RX7 yX7_debtsMadeBy yX7_debtsMadeBy, Cond.code yX7_debtsMadeBy cX7_debtsMadeBy 6 (some .int), Cond.methodLink RX7 275 Lib.MathLoose.min_long.x, Cond.static Lib.MathLoose.min_long.x, Cond.initialized "java/lang/Math", Cond.code Lib.MathLoose.min_long.x Lib.MathLoose.min_long.code 4 (some .long), Cond.fieldLink RX7 26 "FeastLedger" "customs" "LFeastLedger$Customs;", Cond.fieldLink RX7 58 "FeastLedger" "now" "I", Cond.methodLink RX7 271 yX3_owed, Cond.instanceMethod yX3_owed, Cond.selects RX3 yX3_owed yX3_owed, Cond.initialized RX3, Cond.code yX3_owed cX3_owed 6 (some .long), Cond.fieldLink RX3 24 "FeastLedger$Debts" "size" "I", Cond.fieldLink RX3 18 "FeastLedger$Debts" "left" "[I", Cond.methodLink RX3 32 yX3_isOpenBetween, Cond.instanceMethod yX3_isOpenBetween, Cond.selects RX3 yX3_isOpenBetween yX3_isOpenBetween, Cond.code yX3_isOpenBetween cX3_isOpenBetween 4 (some .boolean)]
def wsX7_pass_r3 : List Cond := [Cond.fieldLink RX3 9 "FeastLedger$Debts" "debtor" "[I", Cond.fieldLink RX3 15 "FeastLedger$Debts" "creditor" "[I", Cond.methodLink RX7 112 yX2_inForce, Cond.instanceMethod yX2_inForce, Cond.selects RX2 yX2_inForce yX2_inForce, Cond.initialized RX2, Cond.code yX2_inForce cX2_inForce 4 (some .int), Cond.fieldLink RX2 33 "FeastLedger$Customs" "size" "I", Cond.fieldLink RX2 9 "FeastLedger$Customs" "fromYear" "[I", Cond.methodLink RX7 281 yX2_askedFor, Cond.instanceMethod yX2_askedFor, Cond.selects RX2 yX2_askedFor yX2_askedFor, Cond.code yX2_askedFor cX2_askedFor 7 (some .int), Cond.fieldLink RX2 18 "FeastLedger$Customs" "returnBy" "[I", Cond.fieldLink RX2 15 "FeastLedger$Customs" "returnTimes" "[I", Cond.constantLong RX2 51 (1000000000), Cond.methodLink RX2 53 Lib.MathLoose.min_long.x, Cond.methodLink RX7 127 yX3_room, Cond.instanceMethod yX3_room, Cond.selects RX3 yX3_room yX3_room, Cond.code yX3_room cX3_room 1 (some .int), Cond.methodLink RX7 134 yX7_recordGiven, Cond.instanceMethod yX7_recordGiven, Cond.selects RX7 yX7_recordGiven yX7_recordGiven]
def wsX7_pass_r4 : List Cond := [Cond.code yX7_recordGiven cX7_recordGiven 7 (some .int), Cond.fieldLink RX7 238 "FeastLedger$Chiefs" "fame" "[J", Cond.methodLink RX7 285 yX3_answer, Cond.instanceMethod yX3_answer, Cond.selects RX3 yX3_answer yX3_answer, Cond.code yX3_answer cX3_answer 8 (some .int), Cond.methodLink RX3 40 Lib.Math.min.name, Cond.static Lib.Math.min.name, Cond.code Lib.Math.min.name Lib.Math.min.code 2 (some .int), Cond.methodLink RX3 36 yX3_firstToAnswer, Cond.instanceMethod yX3_firstToAnswer, Cond.selects RX3 yX3_firstToAnswer yX3_firstToAnswer, Cond.code yX3_firstToAnswer cX3_firstToAnswer 5 (some .int), Cond.methodLink RX3 45 yX3_turn, Cond.instanceMethod yX3_turn, Cond.selects RX3 yX3_turn yX3_turn, Cond.code yX3_turn cX3_turn 2 (some .int), Cond.constant RX3 49 (1000000), Cond.fieldLink RX3 21 "FeastLedger$Debts" "due" "[I", Cond.methodLink RX3 28 yX3_isLoan, Cond.instanceMethod yX3_isLoan, Cond.selects RX3 yX3_isLoan yX3_isLoan, Cond.code yX3_isLoan cX3_isLoan 2 (some .boolean), Cond.methodLink RX7 288 yX2_yearsToAnswer]
def wsX7_pass_r5 : List Cond := [Cond.instanceMethod yX2_yearsToAnswer, Cond.selects RX2 yX2_yearsToAnswer yX2_yearsToAnswer, Cond.code yX2_yearsToAnswer cX2_yearsToAnswer 2 (some .int), Cond.fieldLink RX2 21 "FeastLedger$Customs" "within" "[I", Cond.methodLink RX7 137 yX3_add, Cond.instanceMethod yX3_add, Cond.selects RX3 yX3_add yX3_add, Cond.code yX3_add cX3_add 5 (some .int)]
def wsX7_pass : List Cond := .code yX7_pass cX7_pass 5 (some .int) :: ((wsX7_pass_r1 ++ (wsX7_pass_r2 ++ (wsX7_pass_r3 ++ (wsX7_pass_r4 ++ wsX7_pass_r5)))) ++ wsX70 ++ wsX10 ++ wsX00 ++ wsX30 ++ wsX20 ++ (vx_atS RX7 70 "java/lang/IllegalArgumentException" ["java/lang/RuntimeException", "java/lang/Exception"]).filter goodWord ++ (vx_atS RX7 211 "java/lang/IndexOutOfBoundsException" ["java/lang/RuntimeException", "java/lang/Exception"]).filter goodWord ++ (vx_atS RX7 80 "java/lang/IllegalStateException" ["java/lang/RuntimeException", "java/lang/Exception"]).filter goodWord)
def wsX7_breaks : List Cond := .code yX7_breaks cX7_breaks 2 (some .int) :: ([.fieldLink RX7 47 "FeastLedger" "coppers" "LFeastLedger$Coppers;", .fieldLink RX7 162 "FeastLedger$Coppers" "worth" "[I", .methodLink RX7 154 yX7_checkCopper, .instanceMethod yX7_checkCopper, .selects RX7 yX7_checkCopper yX7_checkCopper, .initialized RX7, .code yX7_checkCopper cX7_checkCopper 2 none, .classLink RX7 207 "java/lang/IndexOutOfBoundsException", .initialized "java/lang/IndexOutOfBoundsException", .fieldLink RX7 148 "FeastLedger$Coppers" "size" "I", .methodLink RX7 165 yX1_breakOff, .instanceMethod yX1_breakOff, .selects RX1 yX1_breakOff yX1_breakOff, .initialized RX1, .code yX1_breakOff cX1_breakOff 3 (some .int), .fieldLink RX1 15 "FeastLedger$Coppers" "firstWorth" "[I", .methodLink RX1 25 Lib.Math.max.name, .static Lib.Math.max.name, .initialized "java/lang/Math", .code Lib.Math.max.name Lib.Math.max.code 2 (some .int), .fieldLink RX1 18 "FeastLedger$Coppers" "worth" "[I"] ++ wsX70 ++ wsX10 ++ (vx_atS RX7 211 "java/lang/IndexOutOfBoundsException" ["java/lang/RuntimeException", "java/lang/Exception"]).filter goodWord)
def wsX7_copperTold : List Cond := .code yX7_copperTold cX7_copperTold 3 (some .int) :: ([.classLink RX7 66 "java/lang/IllegalArgumentException", .initialized "java/lang/IllegalArgumentException", .fieldLink RX7 47 "FeastLedger" "coppers" "LFeastLedger$Coppers;", .fieldLink RX7 157 "FeastLedger$Coppers" "owner" "[I", .fieldLink RX7 162 "FeastLedger$Coppers" "worth" "[I", .methodLink RX7 154 yX7_checkCopper, .instanceMethod yX7_checkCopper, .selects RX7 yX7_checkCopper yX7_checkCopper, .initialized RX7, .code yX7_checkCopper cX7_checkCopper 2 none, .classLink RX7 207 "java/lang/IndexOutOfBoundsException", .initialized "java/lang/IndexOutOfBoundsException", .fieldLink RX7 148 "FeastLedger$Coppers" "size" "I"] ++ wsX70 ++ wsX10 ++ (vx_atS RX7 70 "java/lang/IllegalArgumentException" ["java/lang/RuntimeException", "java/lang/Exception"]).filter goodWord ++ (vx_atS RX7 211 "java/lang/IndexOutOfBoundsException" ["java/lang/RuntimeException", "java/lang/Exception"]).filter goodWord)
def wsX7_isIn : List Cond := .code yX7_isIn cX7_isIn 2 (some .boolean) :: ([])
def wsX7_checkFeast : List Cond := .code yX7_checkFeast cX7_checkFeast 7 none :: ([.classLink RX7 66 "java/lang/IllegalArgumentException", .initialized "java/lang/IllegalArgumentException", .fieldLink RX7 33 "FeastLedger" "chiefs" "LFeastLedger$Chiefs;", .fieldLink RX7 73 "FeastLedger$Chiefs" "size" "I", .constant RX7 268 (100000), .methodLink RX7 140 yX7_checkChief, .instanceMethod yX7_checkChief, .selects RX7 yX7_checkChief yX7_checkChief, .initialized RX7, .code yX7_checkChief cX7_checkChief 2 none, .classLink RX7 207 "java/lang/IndexOutOfBoundsException", .initialized "java/lang/IndexOutOfBoundsException", .methodLink RX7 185 yX7_isIn, .static yX7_isIn, .code yX7_isIn cX7_isIn 2 (some .boolean), .methodLink RX7 145 yX7_checkLives, .instanceMethod yX7_checkLives, .selects RX7 yX7_checkLives yX7_checkLives, .code yX7_checkLives cX7_checkLives 2 none, .classLink RX7 76 "java/lang/IllegalStateException", .initialized "java/lang/IllegalStateException", .fieldLink RX7 191 "FeastLedger$Chiefs" "lives" "[Z"] ++ wsX70 ++ wsX00 ++ (vx_atS RX7 70 "java/lang/IllegalArgumentException" ["java/lang/RuntimeException", "java/lang/Exception"]).filter goodWord ++ (vx_atS RX7 211 "java/lang/IndexOutOfBoundsException" ["java/lang/RuntimeException", "java/lang/Exception"]).filter goodWord ++ (vx_atS RX7 80 "java/lang/IllegalStateException" ["java/lang/RuntimeException", "java/lang/Exception"]).filter goodWord)
def wsJ6_bitCount_0f7a4 : List Cond := .code yJ6_bitCount_0f7a4 cJ6_bitCount_0f7a4 1 (some .int) :: ([.constant RJ6 265 (1431655765), .constant RJ6 266 (858993459), .constant RJ6 267 (252645135)])
def wsX7_debtsMadeByFeast_r1 : List Cond := [Cond.fieldLink RX7 33 "FeastLedger" "chiefs" "LFeastLedger$Chiefs;", Cond.fieldLink RX7 73 "FeastLedger$Chiefs" "size" "I", Cond.methodLink RX7 185 yX7_isIn, Cond.static yX7_isIn, Cond.initialized RX7, Cond.code yX7_isIn cX7_isIn 2 (some .boolean), Cond.methodLink RX7 123 yX7_debtsMadeBy, Cond.instanceMethod yX7_debtsMadeBy, Cond.selects RX7 yX7_debtsMadeBy yX7_debtsMadeBy, Cond.code yX7_debtsMadeBy cX7_debtsMadeBy 6 (some .int), Cond.fieldLink RX7 40 "FeastLedger" "debts" "LFeastLedger$Debts;", Cond.methodLink RX7 275 Lib.MathLoose.min_long.x, Cond.static Lib.MathLoose.min_long.x, Cond.initialized "java/lang/Math", Cond.code Lib.MathLoose.min_long.x Lib.MathLoose.min_long.code 4 (some .long), Cond.fieldLink RX7 26 "FeastLedger" "customs" "LFeastLedger$Customs;", Cond.fieldLink RX7 58 "FeastLedger" "now" "I", Cond.methodLink RX7 271 yX3_owed, Cond.instanceMethod yX3_owed, Cond.selects RX3 yX3_owed yX3_owed, Cond.initialized RX3, Cond.code yX3_owed cX3_owed 6 (some .long), Cond.fieldLink RX3 24 "FeastLedger$Debts" "size" "I", Cond.fieldLink RX3 18 "FeastLedger$Debts" "left" "[I"]
def wsX7_debtsMadeByFeast_r2 : List Cond := [Cond.methodLink RX3 32 yX3_isOpenBetween, Cond.instanceMethod yX3_isOpenBetween, Cond.selects RX3 yX3_isOpenBetween yX3_isOpenBetween, Cond.code yX3_isOpenBetween cX3_isOpenBetween 4 (some .boolean), Cond.fieldLink RX3 9 "FeastLedger$Debts" "debtor" "[I", Cond.fieldLink RX3 15 "FeastLedger$Debts" "creditor" "[I", Cond.methodLink RX7 112 yX2_inForce, Cond.instanceMethod yX2_inForce, Cond.selects RX2 yX2_inForce yX2_inForce, Cond.initialized RX2, Cond.code yX2_inForce cX2_inForce 4 (some .int), Cond.fieldLink RX2 33 "FeastLedger$Customs" "size" "I", Cond.fieldLink RX2 9 "FeastLedger$Customs" "fromYear" "[I", Cond.methodLink RX7 281 yX2_askedFor, Cond.instanceMethod yX2_askedFor, Cond.selects RX2 yX2_askedFor yX2_askedFor, Cond.code yX2_askedFor cX2_askedFor 7 (some .int), Cond.fieldLink RX2 18 "FeastLedger$Customs" "returnBy" "[I", Cond.fieldLink RX2 15 "FeastLedger$Customs" "returnTimes" "[I", Cond.constantLong RX2 51 (1000000000), Cond.methodLink RX2 53 Lib.MathLoose.min_long.x]
def wsX7_debtsMadeByFeast : List Cond := .code yX7_debtsMadeByFeast cX7_debtsMadeByFeast 6 (some .int) :: ((wsX7_debtsMadeByFeast_r1 ++ wsX7_debtsMadeByFeast_r2) ++ wsX70 ++ wsX00 ++ wsX30 ++ wsX20)
def wsX7_feast_r1 : List Cond := [Cond.fieldLink RX7 26 "FeastLedger" "customs" "LFeastLedger$Customs;", Cond.fieldLink RX7 58 "FeastLedger" "now" "I", Cond.fieldLink RX7 33 "FeastLedger" "chiefs" "LFeastLedger$Chiefs;", Cond.fieldLink RX7 119 "FeastLedger$Chiefs" "blankets" "[I", Cond.fieldLink RX7 40 "FeastLedger" "debts" "LFeastLedger$Debts;", Cond.fieldLink RX7 73 "FeastLedger$Chiefs" "size" "I", Cond.methodLink RX7 170 yX7_checkFeast, Cond.instanceMethod yX7_checkFeast, Cond.selects RX7 yX7_checkFeast yX7_checkFeast, Cond.initialized RX7, Cond.code yX7_checkFeast cX7_checkFeast 7 none, Cond.classLink RX7 66 "java/lang/IllegalArgumentException", Cond.initialized "java/lang/IllegalArgumentException", Cond.constant RX7 268 (100000), Cond.methodLink RX7 140 yX7_checkChief, Cond.instanceMethod yX7_checkChief, Cond.selects RX7 yX7_checkChief yX7_checkChief, Cond.code yX7_checkChief cX7_checkChief 2 none, Cond.classLink RX7 207 "java/lang/IndexOutOfBoundsException", Cond.initialized "java/lang/IndexOutOfBoundsException", Cond.methodLink RX7 185 yX7_isIn, Cond.static yX7_isIn, Cond.code yX7_isIn cX7_isIn 2 (some .boolean), Cond.methodLink RX7 145 yX7_checkLives]
def wsX7_feast_r2 : List Cond := [Cond.instanceMethod yX7_checkLives, Cond.selects RX7 yX7_checkLives yX7_checkLives, Cond.code yX7_checkLives cX7_checkLives 2 none, Cond.classLink RX7 76 "java/lang/IllegalStateException", Cond.initialized "java/lang/IllegalStateException", Cond.fieldLink RX7 191 "FeastLedger$Chiefs" "lives" "[Z", Cond.methodLink RX7 112 yX2_inForce, Cond.instanceMethod yX2_inForce, Cond.selects RX2 yX2_inForce yX2_inForce, Cond.initialized RX2, Cond.code yX2_inForce cX2_inForce 4 (some .int), Cond.fieldLink RX2 33 "FeastLedger$Customs" "size" "I", Cond.fieldLink RX2 9 "FeastLedger$Customs" "fromYear" "[I", Cond.methodLink RX7 174 yX2_witnessShare, Cond.instanceMethod yX2_witnessShare, Cond.selects RX2 yX2_witnessShare yX2_witnessShare, Cond.code yX2_witnessShare cX2_witnessShare 2 (some .int), Cond.fieldLink RX2 30 "FeastLedger$Customs" "witness" "[I", Cond.methodLink RX7 177 yJ6_bitCount_0f7a4, Cond.static yJ6_bitCount_0f7a4, Cond.initialized RJ6, Cond.code yJ6_bitCount_0f7a4 cJ6_bitCount_0f7a4 1 (some .int), Cond.constant RJ6 265 (1431655765), Cond.constant RJ6 266 (858993459)]
def wsX7_feast_r3 : List Cond := [Cond.constant RJ6 267 (252645135), Cond.methodLink RX7 182 yX7_debtsMadeByFeast, Cond.instanceMethod yX7_debtsMadeByFeast, Cond.selects RX7 yX7_debtsMadeByFeast yX7_debtsMadeByFeast, Cond.code yX7_debtsMadeByFeast cX7_debtsMadeByFeast 6 (some .int), Cond.methodLink RX7 123 yX7_debtsMadeBy, Cond.instanceMethod yX7_debtsMadeBy, Cond.selects RX7 yX7_debtsMadeBy yX7_debtsMadeBy, Cond.code yX7_debtsMadeBy cX7_debtsMadeBy 6 (some .int), Cond.methodLink RX7 275 Lib.MathLoose.min_long.x, Cond.static Lib.MathLoose.min_long.x, Cond.initialized "java/lang/Math", Cond.code Lib.MathLoose.min_long.x Lib.MathLoose.min_long.code 4 (some .long), Cond.methodLink RX7 271 yX3_owed, Cond.instanceMethod yX3_owed, Cond.selects RX3 yX3_owed yX3_owed, Cond.initialized RX3, Cond.code yX3_owed cX3_owed 6 (some .long), Cond.fieldLink RX3 24 "FeastLedger$Debts" "size" "I", Cond.fieldLink RX3 18 "FeastLedger$Debts" "left" "[I", Cond.methodLink RX3 32 yX3_isOpenBetween, Cond.instanceMethod yX3_isOpenBetween, Cond.selects RX3 yX3_isOpenBetween yX3_isOpenBetween, Cond.code yX3_isOpenBetween cX3_isOpenBetween 4 (some .boolean)]
def wsX7_feast_r4 : List Cond := [Cond.fieldLink RX3 9 "FeastLedger$Debts" "debtor" "[I", Cond.fieldLink RX3 15 "FeastLedger$Debts" "creditor" "[I", Cond.methodLink RX7 281 yX2_askedFor, Cond.instanceMethod yX2_askedFor, Cond.selects RX2 yX2_askedFor yX2_askedFor, Cond.code yX2_askedFor cX2_askedFor 7 (some .int), Cond.fieldLink RX2 18 "FeastLedger$Customs" "returnBy" "[I", Cond.fieldLink RX2 15 "FeastLedger$Customs" "returnTimes" "[I", Cond.constantLong RX2 51 (1000000000), Cond.methodLink RX2 53 Lib.MathLoose.min_long.x, Cond.methodLink RX7 127 yX3_room, Cond.instanceMethod yX3_room, Cond.selects RX3 yX3_room yX3_room, Cond.code yX3_room cX3_room 1 (some .int), Cond.methodLink RX7 131 yX0_moveBlankets, Cond.instanceMethod yX0_moveBlankets, Cond.selects RX0 yX0_moveBlankets yX0_moveBlankets, Cond.initialized RX0, Cond.code yX0_moveBlankets cX0_moveBlankets 4 none, Cond.fieldLink RX0 9 "FeastLedger$Chiefs" "blankets" "[I", Cond.methodLink RX7 134 yX7_recordGiven, Cond.instanceMethod yX7_recordGiven, Cond.selects RX7 yX7_recordGiven yX7_recordGiven, Cond.code yX7_recordGiven cX7_recordGiven 7 (some .int)]
def wsX7_feast_r5 : List Cond := [Cond.fieldLink RX7 238 "FeastLedger$Chiefs" "fame" "[J", Cond.methodLink RX7 285 yX3_answer, Cond.instanceMethod yX3_answer, Cond.selects RX3 yX3_answer yX3_answer, Cond.code yX3_answer cX3_answer 8 (some .int), Cond.methodLink RX3 40 Lib.Math.min.name, Cond.static Lib.Math.min.name, Cond.code Lib.Math.min.name Lib.Math.min.code 2 (some .int), Cond.methodLink RX3 36 yX3_firstToAnswer, Cond.instanceMethod yX3_firstToAnswer, Cond.selects RX3 yX3_firstToAnswer yX3_firstToAnswer, Cond.code yX3_firstToAnswer cX3_firstToAnswer 5 (some .int), Cond.methodLink RX3 45 yX3_turn, Cond.instanceMethod yX3_turn, Cond.selects RX3 yX3_turn yX3_turn, Cond.code yX3_turn cX3_turn 2 (some .int), Cond.constant RX3 49 (1000000), Cond.fieldLink RX3 21 "FeastLedger$Debts" "due" "[I", Cond.methodLink RX3 28 yX3_isLoan, Cond.instanceMethod yX3_isLoan, Cond.selects RX3 yX3_isLoan yX3_isLoan, Cond.code yX3_isLoan cX3_isLoan 2 (some .boolean), Cond.methodLink RX7 288 yX2_yearsToAnswer, Cond.instanceMethod yX2_yearsToAnswer]
def wsX7_feast_r6 : List Cond := [Cond.selects RX2 yX2_yearsToAnswer yX2_yearsToAnswer, Cond.code yX2_yearsToAnswer cX2_yearsToAnswer 2 (some .int), Cond.fieldLink RX2 21 "FeastLedger$Customs" "within" "[I", Cond.methodLink RX7 137 yX3_add, Cond.instanceMethod yX3_add, Cond.selects RX3 yX3_add yX3_add, Cond.code yX3_add cX3_add 5 (some .int)]
def wsX7_feast : List Cond := .code yX7_feast cX7_feast 8 (some .int) :: ((wsX7_feast_r1 ++ (wsX7_feast_r2 ++ (wsX7_feast_r3 ++ (wsX7_feast_r4 ++ (wsX7_feast_r5 ++ wsX7_feast_r6))))) ++ wsX70 ++ wsX00 ++ wsX20 ++ wsX30 ++ (vx_atS RX7 70 "java/lang/IllegalArgumentException" ["java/lang/RuntimeException", "java/lang/Exception"]).filter goodWord ++ (vx_atS RX7 211 "java/lang/IndexOutOfBoundsException" ["java/lang/RuntimeException", "java/lang/Exception"]).filter goodWord ++ (vx_atS RX7 80 "java/lang/IllegalStateException" ["java/lang/RuntimeException", "java/lang/Exception"]).filter goodWord)
def wsX7_died_r1 : List Cond := [Cond.classLink RX7 66 "java/lang/IllegalArgumentException", Cond.initialized "java/lang/IllegalArgumentException", Cond.fieldLink RX7 33 "FeastLedger" "chiefs" "LFeastLedger$Chiefs;", Cond.fieldLink RX7 119 "FeastLedger$Chiefs" "blankets" "[I", Cond.fieldLink RX7 191 "FeastLedger$Chiefs" "lives" "[Z", Cond.fieldLink RX7 47 "FeastLedger" "coppers" "LFeastLedger$Coppers;", Cond.fieldLink RX7 40 "FeastLedger" "debts" "LFeastLedger$Debts;", Cond.methodLink RX7 140 yX7_checkChief, Cond.instanceMethod yX7_checkChief, Cond.selects RX7 yX7_checkChief yX7_checkChief, Cond.initialized RX7, Cond.code yX7_checkChief cX7_checkChief 2 none, Cond.classLink RX7 207 "java/lang/IndexOutOfBoundsException", Cond.initialized "java/lang/IndexOutOfBoundsException", Cond.fieldLink RX7 73 "FeastLedger$Chiefs" "size" "I", Cond.methodLink RX7 145 yX7_checkLives, Cond.instanceMethod yX7_checkLives, Cond.selects RX7 yX7_checkLives yX7_checkLives, Cond.code yX7_checkLives cX7_checkLives 2 none, Cond.classLink RX7 76 "java/lang/IllegalStateException", Cond.initialized "java/lang/IllegalStateException", Cond.methodLink RX7 131 yX0_moveBlankets, Cond.instanceMethod yX0_moveBlankets, Cond.selects RX0 yX0_moveBlankets yX0_moveBlankets]
def wsX7_died_r2 : List Cond := [Cond.initialized RX0, Cond.code yX0_moveBlankets cX0_moveBlankets 4 none, Cond.fieldLink RX0 9 "FeastLedger$Chiefs" "blankets" "[I", Cond.methodLink RX7 195 yX1_inherit, Cond.instanceMethod yX1_inherit, Cond.selects RX1 yX1_inherit yX1_inherit, Cond.initialized RX1, Cond.code yX1_inherit cX1_inherit 4 none, Cond.fieldLink RX1 21 "FeastLedger$Coppers" "size" "I", Cond.fieldLink RX1 9 "FeastLedger$Coppers" "owner" "[I", Cond.methodLink RX7 199 yX3_inherit, Cond.instanceMethod yX3_inherit, Cond.selects RX3 yX3_inherit yX3_inherit, Cond.initialized RX3, Cond.code yX3_inherit cX3_inherit 5 (some .int), Cond.fieldLink RX3 24 "FeastLedger$Debts" "size" "I", Cond.fieldLink RX3 18 "FeastLedger$Debts" "left" "[I", Cond.fieldLink RX3 9 "FeastLedger$Debts" "debtor" "[I", Cond.fieldLink RX3 15 "FeastLedger$Debts" "creditor" "[I", Cond.methodLink RX3 32 yX3_isOpenBetween, Cond.instanceMethod yX3_isOpenBetween, Cond.selects RX3 yX3_isOpenBetween yX3_isOpenBetween, Cond.code yX3_isOpenBetween cX3_isOpenBetween 4 (some .boolean)]
def wsX7_died : List Cond := .code yX7_died cX7_died 3 (some .int) :: ((wsX7_died_r1 ++ wsX7_died_r2) ++ wsX70 ++ wsX00 ++ wsX10 ++ wsX30 ++ (vx_atS RX7 70 "java/lang/IllegalArgumentException" ["java/lang/RuntimeException", "java/lang/Exception"]).filter goodWord ++ (vx_atS RX7 211 "java/lang/IndexOutOfBoundsException" ["java/lang/RuntimeException", "java/lang/Exception"]).filter goodWord ++ (vx_atS RX7 80 "java/lang/IllegalStateException" ["java/lang/RuntimeException", "java/lang/Exception"]).filter goodWord)
def wsX7_growLoans_r1 : List Cond := [Cond.fieldLink RX7 26 "FeastLedger" "customs" "LFeastLedger$Customs;", Cond.fieldLink RX7 58 "FeastLedger" "now" "I", Cond.fieldLink RX7 40 "FeastLedger" "debts" "LFeastLedger$Debts;", Cond.fieldLink RX7 206 "FeastLedger$Debts" "size" "I", Cond.fieldLink RX7 218 "FeastLedger$Debts" "left" "[I", Cond.methodLink RX7 112 yX2_inForce, Cond.instanceMethod yX2_inForce, Cond.selects RX2 yX2_inForce yX2_inForce, Cond.initialized RX2, Cond.code yX2_inForce cX2_inForce 4 (some .int), Cond.fieldLink RX2 33 "FeastLedger$Customs" "size" "I", Cond.fieldLink RX2 9 "FeastLedger$Customs" "fromYear" "[I", Cond.methodLink RX7 221 yX3_isLoan, Cond.instanceMethod yX3_isLoan, Cond.selects RX3 yX3_isLoan yX3_isLoan, Cond.initialized RX3, Cond.code yX3_isLoan cX3_isLoan 2 (some .boolean), Cond.fieldLink RX3 21 "FeastLedger$Debts" "due" "[I", Cond.methodLink RX7 291 yX2_grown, Cond.instanceMethod yX2_grown, Cond.selects RX2 yX2_grown yX2_grown, Cond.code yX2_grown cX2_grown 6 (some .int), Cond.fieldLink RX2 27 "FeastLedger$Customs" "loanBy" "[I", Cond.fieldLink RX2 24 "FeastLedger$Customs" "loanTimes" "[I"]
def wsX7_growLoans_r2 : List Cond := [Cond.constantLong RX2 51 (1000000000), Cond.methodLink RX2 53 Lib.MathLoose.min_long.x, Cond.static Lib.MathLoose.min_long.x, Cond.initialized "java/lang/Math", Cond.code Lib.MathLoose.min_long.x Lib.MathLoose.min_long.code 4 (some .long)]
def wsX7_growLoans : List Cond := .code yX7_growLoans cX7_growLoans 3 none :: ((wsX7_growLoans_r1 ++ wsX7_growLoans_r2) ++ wsX70 ++ wsX30 ++ wsX20)
def wsX7_wait_r1 : List Cond := [Cond.classLink RX7 66 "java/lang/IllegalArgumentException", Cond.initialized "java/lang/IllegalArgumentException", Cond.fieldLink RX7 58 "FeastLedger" "now" "I", Cond.methodLink RX7 203 yX7_growLoans, Cond.instanceMethod yX7_growLoans, Cond.selects RX7 yX7_growLoans yX7_growLoans, Cond.initialized RX7, Cond.code yX7_growLoans cX7_growLoans 3 none, Cond.fieldLink RX7 26 "FeastLedger" "customs" "LFeastLedger$Customs;", Cond.fieldLink RX7 40 "FeastLedger" "debts" "LFeastLedger$Debts;", Cond.fieldLink RX7 206 "FeastLedger$Debts" "size" "I", Cond.fieldLink RX7 218 "FeastLedger$Debts" "left" "[I", Cond.methodLink RX7 112 yX2_inForce, Cond.instanceMethod yX2_inForce, Cond.selects RX2 yX2_inForce yX2_inForce, Cond.initialized RX2, Cond.code yX2_inForce cX2_inForce 4 (some .int), Cond.fieldLink RX2 33 "FeastLedger$Customs" "size" "I", Cond.fieldLink RX2 9 "FeastLedger$Customs" "fromYear" "[I", Cond.methodLink RX7 221 yX3_isLoan, Cond.instanceMethod yX3_isLoan, Cond.selects RX3 yX3_isLoan yX3_isLoan, Cond.initialized RX3, Cond.code yX3_isLoan cX3_isLoan 2 (some .boolean)]
def wsX7_wait_r2 : List Cond := [Cond.fieldLink RX3 21 "FeastLedger$Debts" "due" "[I", Cond.methodLink RX7 291 yX2_grown, Cond.instanceMethod yX2_grown, Cond.selects RX2 yX2_grown yX2_grown, Cond.code yX2_grown cX2_grown 6 (some .int), Cond.fieldLink RX2 27 "FeastLedger$Customs" "loanBy" "[I", Cond.fieldLink RX2 24 "FeastLedger$Customs" "loanTimes" "[I", Cond.constantLong RX2 51 (1000000000), Cond.methodLink RX2 53 Lib.MathLoose.min_long.x, Cond.static Lib.MathLoose.min_long.x, Cond.initialized "java/lang/Math", Cond.code Lib.MathLoose.min_long.x Lib.MathLoose.min_long.code 4 (some .long)]
def wsX7_wait : List Cond := .code yX7_wait cX7_wait 3 (some .int) :: ((wsX7_wait_r1 ++ wsX7_wait_r2) ++ wsX70 ++ wsX30 ++ wsX20 ++ (vx_atS RX7 70 "java/lang/IllegalArgumentException" ["java/lang/RuntimeException", "java/lang/Exception"]).filter goodWord)
def wsX7_debt : List Cond := .code yX7_debt cX7_debt 3 (some .int) :: ([.classLink RX7 207 "java/lang/IndexOutOfBoundsException", .initialized "java/lang/IndexOutOfBoundsException", .classLink RX7 66 "java/lang/IllegalArgumentException", .initialized "java/lang/IllegalArgumentException", .fieldLink RX7 40 "FeastLedger" "debts" "LFeastLedger$Debts;", .fieldLink RX7 206 "FeastLedger$Debts" "size" "I", .fieldLink RX7 212 "FeastLedger$Debts" "debtor" "[I", .fieldLink RX7 215 "FeastLedger$Debts" "creditor" "[I", .fieldLink RX7 218 "FeastLedger$Debts" "left" "[I", .fieldLink RX7 225 "FeastLedger$Debts" "due" "[I", .methodLink RX7 221 yX3_isLoan, .instanceMethod yX3_isLoan, .selects RX3 yX3_isLoan yX3_isLoan, .initialized RX3, .code yX3_isLoan cX3_isLoan 2 (some .boolean), .fieldLink RX3 21 "FeastLedger$Debts" "due" "[I"] ++ wsX70 ++ wsX30 ++ (vx_atS RX7 211 "java/lang/IndexOutOfBoundsException" ["java/lang/RuntimeException", "java/lang/Exception"]).filter goodWord ++ (vx_atS RX7 70 "java/lang/IllegalArgumentException" ["java/lang/RuntimeException", "java/lang/Exception"]).filter goodWord)
def wsX7_late : List Cond := .code yX7_late cX7_late 2 (some .int) :: ([.fieldLink RX7 40 "FeastLedger" "debts" "LFeastLedger$Debts;", .fieldLink RX7 58 "FeastLedger" "now" "I", .methodLink RX7 230 yX3_overdue, .instanceMethod yX3_overdue, .selects RX3 yX3_overdue yX3_overdue, .initialized RX3, .code yX3_overdue cX3_overdue 5 (some .int), .fieldLink RX3 24 "FeastLedger$Debts" "size" "I", .fieldLink RX3 18 "FeastLedger$Debts" "left" "[I", .fieldLink RX3 21 "FeastLedger$Debts" "due" "[I", .methodLink RX3 28 yX3_isLoan, .instanceMethod yX3_isLoan, .selects RX3 yX3_isLoan yX3_isLoan, .code yX3_isLoan cX3_isLoan 2 (some .boolean)] ++ wsX70 ++ wsX30)
def wsX7_about : List Cond := .code yX7_about cX7_about 3 (some .int) :: ([.classLink RX7 66 "java/lang/IllegalArgumentException", .initialized "java/lang/IllegalArgumentException", .fieldLink RX7 33 "FeastLedger" "chiefs" "LFeastLedger$Chiefs;", .fieldLink RX7 119 "FeastLedger$Chiefs" "blankets" "[I", .fieldLink RX7 191 "FeastLedger$Chiefs" "lives" "[Z", .methodLink RX7 140 yX7_checkChief, .instanceMethod yX7_checkChief, .selects RX7 yX7_checkChief yX7_checkChief, .initialized RX7, .code yX7_checkChief cX7_checkChief 2 none, .classLink RX7 207 "java/lang/IndexOutOfBoundsException", .initialized "java/lang/IndexOutOfBoundsException", .fieldLink RX7 73 "FeastLedger$Chiefs" "size" "I", .methodLink RX7 233 yX0_placeInRank, .instanceMethod yX0_placeInRank, .selects RX0 yX0_placeInRank yX0_placeInRank, .initialized RX0, .code yX0_placeInRank cX0_placeInRank 5 (some .int), .fieldLink RX0 19 "FeastLedger$Chiefs" "lives" "[Z", .fieldLink RX0 23 "FeastLedger$Chiefs" "size" "I", .fieldLink RX0 15 "FeastLedger$Chiefs" "fame" "[J"] ++ wsX70 ++ wsX00 ++ (vx_atS RX7 70 "java/lang/IllegalArgumentException" ["java/lang/RuntimeException", "java/lang/Exception"]).filter goodWord ++ (vx_atS RX7 211 "java/lang/IndexOutOfBoundsException" ["java/lang/RuntimeException", "java/lang/Exception"]).filter goodWord)
def wsX7_fame : List Cond := .code yX7_fame cX7_fame 2 (some .long) :: ([.fieldLink RX7 33 "FeastLedger" "chiefs" "LFeastLedger$Chiefs;", .fieldLink RX7 238 "FeastLedger$Chiefs" "fame" "[J", .methodLink RX7 140 yX7_checkChief, .instanceMethod yX7_checkChief, .selects RX7 yX7_checkChief yX7_checkChief, .initialized RX7, .code yX7_checkChief cX7_checkChief 2 none, .classLink RX7 207 "java/lang/IndexOutOfBoundsException", .initialized "java/lang/IndexOutOfBoundsException", .fieldLink RX7 73 "FeastLedger$Chiefs" "size" "I"] ++ wsX70 ++ wsX00 ++ (vx_atS RX7 211 "java/lang/IndexOutOfBoundsException" ["java/lang/RuntimeException", "java/lang/Exception"]).filter goodWord)
def wsX7_gather_r1 : List Cond := [Cond.fieldLink RX7 33 "FeastLedger" "chiefs" "LFeastLedger$Chiefs;", Cond.fieldLink RX7 191 "FeastLedger$Chiefs" "lives" "[Z", Cond.constantLong RX7 242 (-1), Cond.fieldLink RX7 54 "FeastLedger" "gathering" "LFeastLedger$Gathering;", Cond.fieldLink RX7 40 "FeastLedger" "debts" "LFeastLedger$Debts;", Cond.methodLink RX7 140 yX7_checkChief, Cond.instanceMethod yX7_checkChief, Cond.selects RX7 yX7_checkChief yX7_checkChief, Cond.initialized RX7, Cond.code yX7_checkChief cX7_checkChief 2 none, Cond.classLink RX7 207 "java/lang/IndexOutOfBoundsException", Cond.initialized "java/lang/IndexOutOfBoundsException", Cond.fieldLink RX7 73 "FeastLedger$Chiefs" "size" "I", Cond.methodLink RX7 244 yX4_callIn, Cond.instanceMethod yX4_callIn, Cond.selects RX4 yX4_callIn yX4_callIn, Cond.initialized RX4, Cond.code yX4_callIn cX4_callIn 6 none, Cond.fieldLink RX4 9 "FeastLedger$Gathering" "stock" "[J", Cond.fieldLink RX4 31 "FeastLedger$Chiefs" "blankets" "[I", Cond.fieldLink RX4 17 "FeastLedger$Gathering" "open" "[[J", Cond.fieldLink RX4 36 "FeastLedger$Debts" "size" "I", Cond.fieldLink RX4 46 "FeastLedger$Debts" "due" "[I", Cond.fieldLink RX4 49 "FeastLedger$Debts" "debtor" "[I"]
def wsX7_gather_r2 : List Cond := [Cond.fieldLink RX4 52 "FeastLedger$Debts" "creditor" "[I", Cond.fieldLink RX4 55 "FeastLedger$Debts" "left" "[I", Cond.methodLink RX4 42 yX3_isLoan, Cond.instanceMethod yX3_isLoan, Cond.selects RX3 yX3_isLoan yX3_isLoan, Cond.initialized RX3, Cond.code yX3_isLoan cX3_isLoan 2 (some .boolean), Cond.fieldLink RX3 21 "FeastLedger$Debts" "due" "[I", Cond.methodLink RX7 248 yX4_most, Cond.instanceMethod yX4_most, Cond.selects RX4 yX4_most yX4_most, Cond.code yX4_most cX4_most 6 (some .long), Cond.methodLink RX4 58 yX4_nearestGiver, Cond.instanceMethod yX4_nearestGiver, Cond.selects RX4 yX4_nearestGiver yX4_nearestGiver, Cond.code yX4_nearestGiver cX4_nearestGiver 6 (some .int), Cond.fieldLink RX4 20 "FeastLedger$Gathering" "found" "[Z", Cond.fieldLink RX4 28 "FeastLedger$Gathering" "queue" "[I", Cond.fieldLink RX4 24 "FeastLedger$Gathering" "next" "[I", Cond.methodLink RX4 62 yX4_handOn, Cond.instanceMethod yX4_handOn, Cond.selects RX4 yX4_handOn yX4_handOn, Cond.code yX4_handOn cX4_handOn 7 (some .long), Cond.methodLink RX4 66 Lib.MathLoose.min_long.x]
def wsX7_gather_r3 : List Cond := [Cond.static Lib.MathLoose.min_long.x, Cond.initialized "java/lang/Math", Cond.code Lib.MathLoose.min_long.x Lib.MathLoose.min_long.code 4 (some .long)]
def wsX7_gather : List Cond := .code yX7_gather cX7_gather 3 (some .long) :: ((wsX7_gather_r1 ++ (wsX7_gather_r2 ++ wsX7_gather_r3)) ++ wsX70 ++ wsX00 ++ wsX40 ++ wsX30 ++ (vx_atS RX7 211 "java/lang/IndexOutOfBoundsException" ["java/lang/RuntimeException", "java/lang/Exception"]).filter goodWord)
def wsX7_hold_r1 : List Cond := [Cond.fieldLink RX7 33 "FeastLedger" "chiefs" "LFeastLedger$Chiefs;", Cond.fieldLink RX7 191 "FeastLedger$Chiefs" "lives" "[Z", Cond.fieldLink RX7 54 "FeastLedger" "gathering" "LFeastLedger$Gathering;", Cond.fieldLink RX7 40 "FeastLedger" "debts" "LFeastLedger$Debts;", Cond.methodLink RX7 140 yX7_checkChief, Cond.instanceMethod yX7_checkChief, Cond.selects RX7 yX7_checkChief yX7_checkChief, Cond.initialized RX7, Cond.code yX7_checkChief cX7_checkChief 2 none, Cond.classLink RX7 207 "java/lang/IndexOutOfBoundsException", Cond.initialized "java/lang/IndexOutOfBoundsException", Cond.fieldLink RX7 73 "FeastLedger$Chiefs" "size" "I", Cond.methodLink RX7 244 yX4_callIn, Cond.instanceMethod yX4_callIn, Cond.selects RX4 yX4_callIn yX4_callIn, Cond.initialized RX4, Cond.code yX4_callIn cX4_callIn 6 none, Cond.fieldLink RX4 9 "FeastLedger$Gathering" "stock" "[J", Cond.fieldLink RX4 31 "FeastLedger$Chiefs" "blankets" "[I", Cond.fieldLink RX4 17 "FeastLedger$Gathering" "open" "[[J", Cond.fieldLink RX4 36 "FeastLedger$Debts" "size" "I", Cond.fieldLink RX4 46 "FeastLedger$Debts" "due" "[I", Cond.fieldLink RX4 49 "FeastLedger$Debts" "debtor" "[I", Cond.fieldLink RX4 52 "FeastLedger$Debts" "creditor" "[I"]
def wsX7_hold_r2 : List Cond := [Cond.fieldLink RX4 55 "FeastLedger$Debts" "left" "[I", Cond.methodLink RX4 42 yX3_isLoan, Cond.instanceMethod yX3_isLoan, Cond.selects RX3 yX3_isLoan yX3_isLoan, Cond.initialized RX3, Cond.code yX3_isLoan cX3_isLoan 2 (some .boolean), Cond.fieldLink RX3 21 "FeastLedger$Debts" "due" "[I", Cond.methodLink RX7 248 yX4_most, Cond.instanceMethod yX4_most, Cond.selects RX4 yX4_most yX4_most, Cond.code yX4_most cX4_most 6 (some .long), Cond.methodLink RX4 58 yX4_nearestGiver, Cond.instanceMethod yX4_nearestGiver, Cond.selects RX4 yX4_nearestGiver yX4_nearestGiver, Cond.code yX4_nearestGiver cX4_nearestGiver 6 (some .int), Cond.fieldLink RX4 20 "FeastLedger$Gathering" "found" "[Z", Cond.fieldLink RX4 28 "FeastLedger$Gathering" "queue" "[I", Cond.fieldLink RX4 24 "FeastLedger$Gathering" "next" "[I", Cond.methodLink RX4 62 yX4_handOn, Cond.instanceMethod yX4_handOn, Cond.selects RX4 yX4_handOn yX4_handOn, Cond.code yX4_handOn cX4_handOn 7 (some .long), Cond.methodLink RX4 66 Lib.MathLoose.min_long.x, Cond.static Lib.MathLoose.min_long.x]
def wsX7_hold_r3 : List Cond := [Cond.initialized "java/lang/Math", Cond.code Lib.MathLoose.min_long.x Lib.MathLoose.min_long.code 4 (some .long), Cond.methodLink RX7 252 yX4_side, Cond.instanceMethod yX4_side, Cond.selects RX4 yX4_side yX4_side, Cond.code yX4_side cX4_side 3 (some .int)]
def wsX7_hold : List Cond := .code yX7_hold cX7_hold 3 (some .int) :: ((wsX7_hold_r1 ++ (wsX7_hold_r2 ++ wsX7_hold_r3)) ++ wsX70 ++ wsX00 ++ wsX40 ++ wsX30 ++ (vx_atS RX7 211 "java/lang/IndexOutOfBoundsException" ["java/lang/RuntimeException", "java/lang/Exception"]).filter goodWord)
def wsX7_count : List Cond := .code yX7_count cX7_count 2 (some .int) :: ([.fieldLink RX7 33 "FeastLedger" "chiefs" "LFeastLedger$Chiefs;", .fieldLink RX7 73 "FeastLedger$Chiefs" "size" "I", .fieldLink RX7 26 "FeastLedger" "customs" "LFeastLedger$Customs;", .fieldLink RX7 94 "FeastLedger$Customs" "size" "I", .fieldLink RX7 40 "FeastLedger" "debts" "LFeastLedger$Debts;", .fieldLink RX7 206 "FeastLedger$Debts" "size" "I", .fieldLink RX7 47 "FeastLedger" "coppers" "LFeastLedger$Coppers;", .fieldLink RX7 148 "FeastLedger$Coppers" "size" "I", .fieldLink RX7 58 "FeastLedger" "now" "I", .fieldLink RX7 10 "FeastLedger" "tape" "LFeastLedger$Tape;", .fieldLink RX7 85 "FeastLedger$Tape" "length" "I", .methodLink RX7 255 yX3_open, .instanceMethod yX3_open, .selects RX3 yX3_open yX3_open, .initialized RX3, .code yX3_open cX3_open 3 (some .int), .fieldLink RX3 24 "FeastLedger$Debts" "size" "I", .fieldLink RX3 18 "FeastLedger$Debts" "left" "[I"] ++ wsX70 ++ wsX00 ++ wsX20 ++ wsX30 ++ wsX10 ++ wsX50)
def wsX8_init_r1 : List Cond := [Cond.methodLink RX8 1 objectInit, Cond.instanceMethod objectInit, Cond.code objectInit ⟨#[0xb1]⟩ 1 none, Cond.arrayClass .int, Cond.fieldLink RX8 9 "FeastLedgerModel" "blankets" "[I", Cond.arrayClass .long, Cond.fieldLink RX8 13 "FeastLedgerModel" "fames" "[J", Cond.arrayClass .boolean, Cond.fieldLink RX8 17 "FeastLedgerModel" "isDead" "[Z", Cond.arrayClass .byte, Cond.fieldLink RX8 21 "FeastLedgerModel" "tape" "[B", Cond.fieldLink RX8 25 "FeastLedgerModel" "place" "I", Cond.fieldLink RX8 29 "FeastLedgerModel" "since" "[I", Cond.fieldLink RX8 32 "FeastLedgerModel" "terms" "[I", Cond.fieldLink RX8 35 "FeastLedgerModel" "owes" "[I", Cond.fieldLink RX8 38 "FeastLedgerModel" "whom" "[I", Cond.fieldLink RX8 41 "FeastLedgerModel" "left" "[J", Cond.fieldLink RX8 44 "FeastLedgerModel" "isLoan" "[Z", Cond.fieldLink RX8 47 "FeastLedgerModel" "due" "[I", Cond.fieldLink RX8 50 "FeastLedgerModel" "owner" "[I", Cond.fieldLink RX8 53 "FeastLedgerModel" "worth" "[I", Cond.fieldLink RX8 56 "FeastLedgerModel" "first" "[I", Cond.fieldLink RX8 59 "FeastLedgerModel" "can" "[J", Cond.fieldLink RX8 62 "FeastLedgerModel" "has" "[J"]
def wsX8_init_r2 : List Cond := [Cond.fieldLink RX8 65 "FeastLedgerModel" "to" "[I", Cond.fieldLink RX8 68 "FeastLedgerModel" "isSeen" "[Z", Cond.fieldLink RX8 71 "FeastLedgerModel" "row" "[I"]
def wsX8_init : List Cond := .code yX8_init cX8_init 1 none :: ((wsX8_init_r1 ++ wsX8_init_r2) ++ wsX80)
def wsX8_thrown : List Cond := .code yX8_thrown cX8_thrown 1 (some .int) :: ([.fieldLink RX8 74 "FeastLedgerModel" "thrown" "I"] ++ wsX80)
def wsX8_bad : List Cond := .code yX8_bad cX8_bad 3 (some .boolean) :: ([.fieldLink RX8 74 "FeastLedgerModel" "thrown" "I"] ++ wsX80)
def wsX8_chief : List Cond := .code yX8_chief cX8_chief 2 (some .int) :: ([.fieldLink RX8 74 "FeastLedgerModel" "thrown" "I", .constant RX8 77 (1000000), .fieldLink RX8 82 "FeastLedgerModel" "chiefs" "I", .fieldLink RX8 9 "FeastLedgerModel" "blankets" "[I", .methodLink RX8 78 yX8_bad, .instanceMethod yX8_bad, .selects RX8 yX8_bad yX8_bad, .initialized RX8, .code yX8_bad cX8_bad 3 (some .boolean)] ++ wsX80)
def wsX8_isChief : List Cond := .code yX8_isChief cX8_isChief 2 (some .boolean) :: ([.fieldLink RX8 82 "FeastLedgerModel" "chiefs" "I"] ++ wsX80)
def wsX8_feed : List Cond := .code yX8_feed cX8_feed 9 (some .int) :: ([.fieldLink RX8 74 "FeastLedgerModel" "thrown" "I", .fieldLink RX8 85 "FeastLedgerModel" "taped" "I", .fieldLink RX8 21 "FeastLedgerModel" "tape" "[B"] ++ wsX80)
def wsX8_byteAt : List Cond := .code yX8_byteAt cX8_byteAt 2 (some .int) :: ([.fieldLink RX8 88 "FeastLedgerModel" "size" "I", .fieldLink RX8 21 "FeastLedgerModel" "tape" "[B"] ++ wsX80)
def wsX8_blanks : List Cond := .code yX8_blanks cX8_blanks 1 none :: ([.fieldLink RX8 91 "FeastLedgerModel" "at" "I", .fieldLink RX8 88 "FeastLedgerModel" "size" "I", .methodLink RX8 94 yX8_byteAt, .instanceMethod yX8_byteAt, .selects RX8 yX8_byteAt yX8_byteAt, .initialized RX8, .code yX8_byteAt cX8_byteAt 2 (some .int), .fieldLink RX8 21 "FeastLedgerModel" "tape" "[B"] ++ wsX80)
def wsX8_isSmall : List Cond := .code yX8_isSmall cX8_isSmall 1 (some .boolean) :: ([])
def wsX8_isDigit : List Cond := .code yX8_isDigit cX8_isDigit 1 (some .boolean) :: ([])
def wsX8_wrong : List Cond := .code yX8_wrong cX8_wrong 3 none :: ([.fieldLink RX8 98 "FeastLedgerModel" "fault" "I", .fieldLink RX8 25 "FeastLedgerModel" "place" "I"] ++ wsX80)
def wsX8_isWord_r1 : List Cond := [Cond.fieldLink RX8 91 "FeastLedgerModel" "at" "I", Cond.methodLink RX8 101 yX8_blanks, Cond.instanceMethod yX8_blanks, Cond.selects RX8 yX8_blanks yX8_blanks, Cond.initialized RX8, Cond.code yX8_blanks cX8_blanks 1 none, Cond.fieldLink RX8 88 "FeastLedgerModel" "size" "I", Cond.methodLink RX8 94 yX8_byteAt, Cond.instanceMethod yX8_byteAt, Cond.selects RX8 yX8_byteAt yX8_byteAt, Cond.code yX8_byteAt cX8_byteAt 2 (some .int), Cond.fieldLink RX8 21 "FeastLedgerModel" "tape" "[B", Cond.methodLink RX8 104 yJ0_length_8abf5, Cond.instanceMethod yJ0_length_8abf5, Cond.selects RJ0 yJ0_length_8abf5 yJ0_length_8abf5, Cond.initialized RJ0, Cond.code yJ0_length_8abf5 cJ0_length_8abf5 1 (some .int), Cond.fieldLink RJ0 9 "java/lang/String" "value" "[B", Cond.methodLink RJ0 335 yJ0_coder_7d493, Cond.instanceMethod yJ0_coder_7d493, Cond.selects RJ0 yJ0_coder_7d493 yJ0_coder_7d493, Cond.code yJ0_coder_7d493 cJ0_coder_7d493 1 (some .byte), Cond.fieldLink RJ0 38 "java/lang/String" "COMPACT_STRINGS" "Z", Cond.fieldLink RJ0 15 "java/lang/String" "coder" "B"]
def wsX8_isWord_r2 : List Cond := [Cond.methodLink RX8 110 yJ0_charAt_5068e, Cond.instanceMethod yJ0_charAt_5068e, Cond.selects RJ0 yJ0_charAt_5068e yJ0_charAt_5068e, Cond.code yJ0_charAt_5068e cJ0_charAt_5068e 2 (some .char), Cond.methodLink RJ0 492 yJ0_isLatin1_aae02, Cond.instanceMethod yJ0_isLatin1_aae02, Cond.selects RJ0 yJ0_isLatin1_aae02 yJ0_isLatin1_aae02, Cond.code yJ0_isLatin1_aae02 cJ0_isLatin1_aae02 1 (some .boolean), Cond.methodLink RJ0 495 yJ1_charAt_3b067, Cond.static yJ1_charAt_3b067, Cond.initialized RJ1, Cond.code yJ1_charAt_3b067 cJ1_charAt_3b067 2 (some .char), Cond.methodLink RJ1 9 yJ0_checkIndex_df160, Cond.static yJ0_checkIndex_df160, Cond.code yJ0_checkIndex_df160 cJ0_checkIndex_df160 2 none, Cond.fieldLink RJ0 1053 "jdk/internal/util/Preconditions" "SIOOBE_FORMATTER" "Ljava/util/function/BiFunction;", Cond.methodLink RJ0 1059 yJ3_checkIndex_8e157, Cond.static yJ3_checkIndex_8e157, Cond.initialized RJ3, Cond.code yJ3_checkIndex_8e157 cJ3_checkIndex_8e157 3 (some .int), Cond.methodLink RJ0 498 yJ2_charAt_3b067, Cond.static yJ2_charAt_3b067, Cond.initialized RJ2, Cond.code yJ2_charAt_3b067 cJ2_charAt_3b067 2 (some .char)]
def wsX8_isWord_r3 : List Cond := [Cond.methodLink RJ2 67 yJ2_checkIndex_2214a, Cond.static yJ2_checkIndex_2214a, Cond.code yJ2_checkIndex_2214a cJ2_checkIndex_2214a 2 none, Cond.methodLink RJ2 48 yJ2_length_9d52b, Cond.static yJ2_length_9d52b, Cond.code yJ2_length_9d52b cJ2_length_9d52b 1 (some .int), Cond.methodLink RJ2 414 yJ0_checkIndex_df160, Cond.methodLink RJ2 71 yJ2_getChar_3b067, Cond.static yJ2_getChar_3b067, Cond.code yJ2_getChar_3b067 cJ2_getChar_3b067 2 (some .char), Cond.fieldLink RJ2 44 "java/lang/StringUTF16" "$assertionsDisabled" "Z", Cond.fieldLink RJ2 59 "java/lang/StringUTF16" "HI_BYTE_SHIFT" "I", Cond.fieldLink RJ2 63 "java/lang/StringUTF16" "LO_BYTE_SHIFT" "I", Cond.methodLink RX8 114 yX8_isSmall, Cond.static yX8_isSmall, Cond.code yX8_isSmall cX8_isSmall 1 (some .boolean)]
def wsX8_isWord : List Cond := .code yX8_isWord cX8_isWord 3 (some .boolean) :: ((wsX8_isWord_r1 ++ (wsX8_isWord_r2 ++ wsX8_isWord_r3)) ++ wsX80)
def wsX8_need_r1 : List Cond := [Cond.fieldLink RX8 98 "FeastLedgerModel" "fault" "I", Cond.fieldLink RX8 91 "FeastLedgerModel" "at" "I", Cond.methodLink RX8 118 yX8_isWord, Cond.instanceMethod yX8_isWord, Cond.selects RX8 yX8_isWord yX8_isWord, Cond.initialized RX8, Cond.code yX8_isWord cX8_isWord 3 (some .boolean), Cond.methodLink RX8 101 yX8_blanks, Cond.instanceMethod yX8_blanks, Cond.selects RX8 yX8_blanks yX8_blanks, Cond.code yX8_blanks cX8_blanks 1 none, Cond.fieldLink RX8 88 "FeastLedgerModel" "size" "I", Cond.methodLink RX8 94 yX8_byteAt, Cond.instanceMethod yX8_byteAt, Cond.selects RX8 yX8_byteAt yX8_byteAt, Cond.code yX8_byteAt cX8_byteAt 2 (some .int), Cond.fieldLink RX8 21 "FeastLedgerModel" "tape" "[B", Cond.methodLink RX8 104 yJ0_length_8abf5, Cond.instanceMethod yJ0_length_8abf5, Cond.selects RJ0 yJ0_length_8abf5 yJ0_length_8abf5, Cond.initialized RJ0, Cond.code yJ0_length_8abf5 cJ0_length_8abf5 1 (some .int), Cond.fieldLink RJ0 9 "java/lang/String" "value" "[B", Cond.methodLink RJ0 335 yJ0_coder_7d493]
def wsX8_need_r2 : List Cond := [Cond.instanceMethod yJ0_coder_7d493, Cond.selects RJ0 yJ0_coder_7d493 yJ0_coder_7d493, Cond.code yJ0_coder_7d493 cJ0_coder_7d493 1 (some .byte), Cond.fieldLink RJ0 38 "java/lang/String" "COMPACT_STRINGS" "Z", Cond.fieldLink RJ0 15 "java/lang/String" "coder" "B", Cond.methodLink RX8 110 yJ0_charAt_5068e, Cond.instanceMethod yJ0_charAt_5068e, Cond.selects RJ0 yJ0_charAt_5068e yJ0_charAt_5068e, Cond.code yJ0_charAt_5068e cJ0_charAt_5068e 2 (some .char), Cond.methodLink RJ0 492 yJ0_isLatin1_aae02, Cond.instanceMethod yJ0_isLatin1_aae02, Cond.selects RJ0 yJ0_isLatin1_aae02 yJ0_isLatin1_aae02, Cond.code yJ0_isLatin1_aae02 cJ0_isLatin1_aae02 1 (some .boolean), Cond.methodLink RJ0 495 yJ1_charAt_3b067, Cond.static yJ1_charAt_3b067, Cond.initialized RJ1, Cond.code yJ1_charAt_3b067 cJ1_charAt_3b067 2 (some .char), Cond.methodLink RJ1 9 yJ0_checkIndex_df160, Cond.static yJ0_checkIndex_df160, Cond.code yJ0_checkIndex_df160 cJ0_checkIndex_df160 2 none, Cond.fieldLink RJ0 1053 "jdk/internal/util/Preconditions" "SIOOBE_FORMATTER" "Ljava/util/function/BiFunction;", Cond.methodLink RJ0 1059 yJ3_checkIndex_8e157, Cond.static yJ3_checkIndex_8e157, Cond.initialized RJ3]
def wsX8_need_r3 : List Cond := [Cond.code yJ3_checkIndex_8e157 cJ3_checkIndex_8e157 3 (some .int), Cond.methodLink RJ0 498 yJ2_charAt_3b067, Cond.static yJ2_charAt_3b067, Cond.initialized RJ2, Cond.code yJ2_charAt_3b067 cJ2_charAt_3b067 2 (some .char), Cond.methodLink RJ2 67 yJ2_checkIndex_2214a, Cond.static yJ2_checkIndex_2214a, Cond.code yJ2_checkIndex_2214a cJ2_checkIndex_2214a 2 none, Cond.methodLink RJ2 48 yJ2_length_9d52b, Cond.static yJ2_length_9d52b, Cond.code yJ2_length_9d52b cJ2_length_9d52b 1 (some .int), Cond.methodLink RJ2 414 yJ0_checkIndex_df160, Cond.methodLink RJ2 71 yJ2_getChar_3b067, Cond.static yJ2_getChar_3b067, Cond.code yJ2_getChar_3b067 cJ2_getChar_3b067 2 (some .char), Cond.fieldLink RJ2 44 "java/lang/StringUTF16" "$assertionsDisabled" "Z", Cond.fieldLink RJ2 59 "java/lang/StringUTF16" "HI_BYTE_SHIFT" "I", Cond.fieldLink RJ2 63 "java/lang/StringUTF16" "LO_BYTE_SHIFT" "I", Cond.methodLink RX8 114 yX8_isSmall, Cond.static yX8_isSmall, Cond.code yX8_isSmall cX8_isSmall 1 (some .boolean), Cond.methodLink RX8 122 yX8_wrong, Cond.instanceMethod yX8_wrong, Cond.selects RX8 yX8_wrong yX8_wrong]
def wsX8_need_r4 : List Cond := [Cond.code yX8_wrong cX8_wrong 3 none, Cond.fieldLink RX8 25 "FeastLedgerModel" "place" "I"]
def wsX8_need : List Cond := .code yX8_need cX8_need 2 none :: ((wsX8_need_r1 ++ (wsX8_need_r2 ++ (wsX8_need_r3 ++ wsX8_need_r4))) ++ wsX80)
def wsX8_sign : List Cond := .code yX8_sign cX8_sign 2 none :: ([.fieldLink RX8 98 "FeastLedgerModel" "fault" "I", .fieldLink RX8 91 "FeastLedgerModel" "at" "I", .fieldLink RX8 88 "FeastLedgerModel" "size" "I", .methodLink RX8 101 yX8_blanks, .instanceMethod yX8_blanks, .selects RX8 yX8_blanks yX8_blanks, .initialized RX8, .code yX8_blanks cX8_blanks 1 none, .methodLink RX8 94 yX8_byteAt, .instanceMethod yX8_byteAt, .selects RX8 yX8_byteAt yX8_byteAt, .code yX8_byteAt cX8_byteAt 2 (some .int), .fieldLink RX8 21 "FeastLedgerModel" "tape" "[B", .methodLink RX8 122 yX8_wrong, .instanceMethod yX8_wrong, .selects RX8 yX8_wrong yX8_wrong, .code yX8_wrong cX8_wrong 3 none, .fieldLink RX8 25 "FeastLedgerModel" "place" "I"] ++ wsX80)
def wsX8_number : List Cond := .code yX8_number cX8_number 4 (some .int) :: ([.fieldLink RX8 98 "FeastLedgerModel" "fault" "I", .fieldLink RX8 91 "FeastLedgerModel" "at" "I", .methodLink RX8 101 yX8_blanks, .instanceMethod yX8_blanks, .selects RX8 yX8_blanks yX8_blanks, .initialized RX8, .code yX8_blanks cX8_blanks 1 none, .fieldLink RX8 88 "FeastLedgerModel" "size" "I", .methodLink RX8 94 yX8_byteAt, .instanceMethod yX8_byteAt, .selects RX8 yX8_byteAt yX8_byteAt, .code yX8_byteAt cX8_byteAt 2 (some .int), .fieldLink RX8 21 "FeastLedgerModel" "tape" "[B", .methodLink RX8 126 yX8_isDigit, .static yX8_isDigit, .code yX8_isDigit cX8_isDigit 1 (some .boolean), .methodLink RX8 122 yX8_wrong, .instanceMethod yX8_wrong, .selects RX8 yX8_wrong yX8_wrong, .code yX8_wrong cX8_wrong 3 none, .fieldLink RX8 25 "FeastLedgerModel" "place" "I"] ++ wsX80)
def wsX8_clause_r1 : List Cond := [Cond.fieldLink RX8 32 "FeastLedgerModel" "terms" "[I", Cond.methodLink RX8 118 yX8_isWord, Cond.instanceMethod yX8_isWord, Cond.selects RX8 yX8_isWord yX8_isWord, Cond.initialized RX8, Cond.code yX8_isWord cX8_isWord 3 (some .boolean), Cond.fieldLink RX8 91 "FeastLedgerModel" "at" "I", Cond.methodLink RX8 101 yX8_blanks, Cond.instanceMethod yX8_blanks, Cond.selects RX8 yX8_blanks yX8_blanks, Cond.code yX8_blanks cX8_blanks 1 none, Cond.fieldLink RX8 88 "FeastLedgerModel" "size" "I", Cond.methodLink RX8 94 yX8_byteAt, Cond.instanceMethod yX8_byteAt, Cond.selects RX8 yX8_byteAt yX8_byteAt, Cond.code yX8_byteAt cX8_byteAt 2 (some .int), Cond.fieldLink RX8 21 "FeastLedgerModel" "tape" "[B", Cond.methodLink RX8 104 yJ0_length_8abf5, Cond.instanceMethod yJ0_length_8abf5, Cond.selects RJ0 yJ0_length_8abf5 yJ0_length_8abf5, Cond.initialized RJ0, Cond.code yJ0_length_8abf5 cJ0_length_8abf5 1 (some .int), Cond.fieldLink RJ0 9 "java/lang/String" "value" "[B", Cond.methodLink RJ0 335 yJ0_coder_7d493]
def wsX8_clause_r2 : List Cond := [Cond.instanceMethod yJ0_coder_7d493, Cond.selects RJ0 yJ0_coder_7d493 yJ0_coder_7d493, Cond.code yJ0_coder_7d493 cJ0_coder_7d493 1 (some .byte), Cond.fieldLink RJ0 38 "java/lang/String" "COMPACT_STRINGS" "Z", Cond.fieldLink RJ0 15 "java/lang/String" "coder" "B", Cond.methodLink RX8 110 yJ0_charAt_5068e, Cond.instanceMethod yJ0_charAt_5068e, Cond.selects RJ0 yJ0_charAt_5068e yJ0_charAt_5068e, Cond.code yJ0_charAt_5068e cJ0_charAt_5068e 2 (some .char), Cond.methodLink RJ0 492 yJ0_isLatin1_aae02, Cond.instanceMethod yJ0_isLatin1_aae02, Cond.selects RJ0 yJ0_isLatin1_aae02 yJ0_isLatin1_aae02, Cond.code yJ0_isLatin1_aae02 cJ0_isLatin1_aae02 1 (some .boolean), Cond.methodLink RJ0 495 yJ1_charAt_3b067, Cond.static yJ1_charAt_3b067, Cond.initialized RJ1, Cond.code yJ1_charAt_3b067 cJ1_charAt_3b067 2 (some .char), Cond.methodLink RJ1 9 yJ0_checkIndex_df160, Cond.static yJ0_checkIndex_df160, Cond.code yJ0_checkIndex_df160 cJ0_checkIndex_df160 2 none, Cond.fieldLink RJ0 1053 "jdk/internal/util/Preconditions" "SIOOBE_FORMATTER" "Ljava/util/function/BiFunction;", Cond.methodLink RJ0 1059 yJ3_checkIndex_8e157, Cond.static yJ3_checkIndex_8e157, Cond.initialized RJ3]
def wsX8_clause_r3 : List Cond := [Cond.code yJ3_checkIndex_8e157 cJ3_checkIndex_8e157 3 (some .int), Cond.methodLink RJ0 498 yJ2_charAt_3b067, Cond.static yJ2_charAt_3b067, Cond.initialized RJ2, Cond.code yJ2_charAt_3b067 cJ2_charAt_3b067 2 (some .char), Cond.methodLink RJ2 67 yJ2_checkIndex_2214a, Cond.static yJ2_checkIndex_2214a, Cond.code yJ2_checkIndex_2214a cJ2_checkIndex_2214a 2 none, Cond.methodLink RJ2 48 yJ2_length_9d52b, Cond.static yJ2_length_9d52b, Cond.code yJ2_length_9d52b cJ2_length_9d52b 1 (some .int), Cond.methodLink RJ2 414 yJ0_checkIndex_df160, Cond.methodLink RJ2 71 yJ2_getChar_3b067, Cond.static yJ2_getChar_3b067, Cond.code yJ2_getChar_3b067 cJ2_getChar_3b067 2 (some .char), Cond.fieldLink RJ2 44 "java/lang/StringUTF16" "$assertionsDisabled" "Z", Cond.fieldLink RJ2 59 "java/lang/StringUTF16" "HI_BYTE_SHIFT" "I", Cond.fieldLink RJ2 63 "java/lang/StringUTF16" "LO_BYTE_SHIFT" "I", Cond.methodLink RX8 114 yX8_isSmall, Cond.static yX8_isSmall, Cond.code yX8_isSmall cX8_isSmall 1 (some .boolean), Cond.methodLink RX8 131 yX8_need, Cond.instanceMethod yX8_need, Cond.selects RX8 yX8_need yX8_need]
def wsX8_clause_r4 : List Cond := [Cond.code yX8_need cX8_need 2 none, Cond.fieldLink RX8 98 "FeastLedgerModel" "fault" "I", Cond.methodLink RX8 122 yX8_wrong, Cond.instanceMethod yX8_wrong, Cond.selects RX8 yX8_wrong yX8_wrong, Cond.code yX8_wrong cX8_wrong 3 none, Cond.fieldLink RX8 25 "FeastLedgerModel" "place" "I", Cond.methodLink RX8 135 yX8_number, Cond.instanceMethod yX8_number, Cond.selects RX8 yX8_number yX8_number, Cond.code yX8_number cX8_number 4 (some .int), Cond.methodLink RX8 126 yX8_isDigit, Cond.static yX8_isDigit, Cond.code yX8_isDigit cX8_isDigit 1 (some .boolean), Cond.methodLink RX8 138 yX8_sign, Cond.instanceMethod yX8_sign, Cond.selects RX8 yX8_sign yX8_sign, Cond.code yX8_sign cX8_sign 2 none]
def wsX8_clause : List Cond := .code yX8_clause cX8_clause 5 none :: ((wsX8_clause_r1 ++ (wsX8_clause_r2 ++ (wsX8_clause_r3 ++ wsX8_clause_r4))) ++ wsX80)
def wsX8_custom_r1 : List Cond := [Cond.fieldLink RX8 74 "FeastLedgerModel" "thrown" "I", Cond.fieldLink RX8 85 "FeastLedgerModel" "taped" "I", Cond.fieldLink RX8 148 "FeastLedgerModel" "customs" "I", Cond.fieldLink RX8 88 "FeastLedgerModel" "size" "I", Cond.fieldLink RX8 91 "FeastLedgerModel" "at" "I", Cond.fieldLink RX8 98 "FeastLedgerModel" "fault" "I", Cond.fieldLink RX8 25 "FeastLedgerModel" "place" "I", Cond.fieldLink RX8 32 "FeastLedgerModel" "terms" "[I", Cond.fieldLink RX8 29 "FeastLedgerModel" "since" "[I", Cond.methodLink RX8 78 yX8_bad, Cond.instanceMethod yX8_bad, Cond.selects RX8 yX8_bad yX8_bad, Cond.initialized RX8, Cond.code yX8_bad cX8_bad 3 (some .boolean), Cond.methodLink RX8 101 yX8_blanks, Cond.instanceMethod yX8_blanks, Cond.selects RX8 yX8_blanks yX8_blanks, Cond.code yX8_blanks cX8_blanks 1 none, Cond.methodLink RX8 94 yX8_byteAt, Cond.instanceMethod yX8_byteAt, Cond.selects RX8 yX8_byteAt yX8_byteAt, Cond.code yX8_byteAt cX8_byteAt 2 (some .int), Cond.fieldLink RX8 21 "FeastLedgerModel" "tape" "[B", Cond.methodLink RX8 118 yX8_isWord]
def wsX8_custom_r2 : List Cond := [Cond.instanceMethod yX8_isWord, Cond.selects RX8 yX8_isWord yX8_isWord, Cond.code yX8_isWord cX8_isWord 3 (some .boolean), Cond.methodLink RX8 104 yJ0_length_8abf5, Cond.instanceMethod yJ0_length_8abf5, Cond.selects RJ0 yJ0_length_8abf5 yJ0_length_8abf5, Cond.initialized RJ0, Cond.code yJ0_length_8abf5 cJ0_length_8abf5 1 (some .int), Cond.fieldLink RJ0 9 "java/lang/String" "value" "[B", Cond.methodLink RJ0 335 yJ0_coder_7d493, Cond.instanceMethod yJ0_coder_7d493, Cond.selects RJ0 yJ0_coder_7d493 yJ0_coder_7d493, Cond.code yJ0_coder_7d493 cJ0_coder_7d493 1 (some .byte), Cond.fieldLink RJ0 38 "java/lang/String" "COMPACT_STRINGS" "Z", Cond.fieldLink RJ0 15 "java/lang/String" "coder" "B", Cond.methodLink RX8 110 yJ0_charAt_5068e, Cond.instanceMethod yJ0_charAt_5068e, Cond.selects RJ0 yJ0_charAt_5068e yJ0_charAt_5068e, Cond.code yJ0_charAt_5068e cJ0_charAt_5068e 2 (some .char), Cond.methodLink RJ0 492 yJ0_isLatin1_aae02, Cond.instanceMethod yJ0_isLatin1_aae02, Cond.selects RJ0 yJ0_isLatin1_aae02 yJ0_isLatin1_aae02, Cond.code yJ0_isLatin1_aae02 cJ0_isLatin1_aae02 1 (some .boolean), Cond.methodLink RJ0 495 yJ1_charAt_3b067]
def wsX8_custom_r3 : List Cond := [Cond.static yJ1_charAt_3b067, Cond.initialized RJ1, Cond.code yJ1_charAt_3b067 cJ1_charAt_3b067 2 (some .char), Cond.methodLink RJ1 9 yJ0_checkIndex_df160, Cond.static yJ0_checkIndex_df160, Cond.code yJ0_checkIndex_df160 cJ0_checkIndex_df160 2 none, Cond.fieldLink RJ0 1053 "jdk/internal/util/Preconditions" "SIOOBE_FORMATTER" "Ljava/util/function/BiFunction;", Cond.methodLink RJ0 1059 yJ3_checkIndex_8e157, Cond.static yJ3_checkIndex_8e157, Cond.initialized RJ3, Cond.code yJ3_checkIndex_8e157 cJ3_checkIndex_8e157 3 (some .int), Cond.methodLink RJ0 498 yJ2_charAt_3b067, Cond.static yJ2_charAt_3b067, Cond.initialized RJ2, Cond.code yJ2_charAt_3b067 cJ2_charAt_3b067 2 (some .char), Cond.methodLink RJ2 67 yJ2_checkIndex_2214a, Cond.static yJ2_checkIndex_2214a, Cond.code yJ2_checkIndex_2214a cJ2_checkIndex_2214a 2 none, Cond.methodLink RJ2 48 yJ2_length_9d52b, Cond.static yJ2_length_9d52b, Cond.code yJ2_length_9d52b cJ2_length_9d52b 1 (some .int), Cond.methodLink RJ2 414 yJ0_checkIndex_df160, Cond.methodLink RJ2 71 yJ2_getChar_3b067, Cond.static yJ2_getChar_3b067]
def wsX8_custom_r4 : List Cond := [Cond.code yJ2_getChar_3b067 cJ2_getChar_3b067 2 (some .char), Cond.fieldLink RJ2 44 "java/lang/StringUTF16" "$assertionsDisabled" "Z", Cond.fieldLink RJ2 59 "java/lang/StringUTF16" "HI_BYTE_SHIFT" "I", Cond.fieldLink RJ2 63 "java/lang/StringUTF16" "LO_BYTE_SHIFT" "I", Cond.methodLink RX8 114 yX8_isSmall, Cond.static yX8_isSmall, Cond.code yX8_isSmall cX8_isSmall 1 (some .boolean), Cond.methodLink RX8 122 yX8_wrong, Cond.instanceMethod yX8_wrong, Cond.selects RX8 yX8_wrong yX8_wrong, Cond.code yX8_wrong cX8_wrong 3 none, Cond.methodLink RX8 151 yX8_clause, Cond.instanceMethod yX8_clause, Cond.selects RX8 yX8_clause yX8_clause, Cond.code yX8_clause cX8_clause 5 none, Cond.methodLink RX8 131 yX8_need, Cond.instanceMethod yX8_need, Cond.selects RX8 yX8_need yX8_need, Cond.code yX8_need cX8_need 2 none, Cond.methodLink RX8 135 yX8_number, Cond.instanceMethod yX8_number, Cond.selects RX8 yX8_number yX8_number, Cond.code yX8_number cX8_number 4 (some .int), Cond.methodLink RX8 126 yX8_isDigit]
def wsX8_custom_r5 : List Cond := [Cond.static yX8_isDigit, Cond.code yX8_isDigit cX8_isDigit 1 (some .boolean), Cond.methodLink RX8 138 yX8_sign, Cond.instanceMethod yX8_sign, Cond.selects RX8 yX8_sign yX8_sign, Cond.code yX8_sign cX8_sign 2 none]
def wsX8_custom : List Cond := .code yX8_custom cX8_custom 6 (some .int) :: ((wsX8_custom_r1 ++ (wsX8_custom_r2 ++ (wsX8_custom_r3 ++ (wsX8_custom_r4 ++ wsX8_custom_r5)))) ++ wsX80)
def wsX8_fault : List Cond := .code yX8_fault cX8_fault 1 (some .int) :: ([.fieldLink RX8 74 "FeastLedgerModel" "thrown" "I", .fieldLink RX8 25 "FeastLedgerModel" "place" "I"] ++ wsX80)
def wsX8_forceOf : List Cond := .code yX8_forceOf cX8_forceOf 4 (some .int) :: ([.fieldLink RX8 148 "FeastLedgerModel" "customs" "I", .fieldLink RX8 29 "FeastLedgerModel" "since" "[I"] ++ wsX80)
def wsX8_force : List Cond := .code yX8_force cX8_force 2 (some .int) :: ([.fieldLink RX8 74 "FeastLedgerModel" "thrown" "I", .methodLink RX8 154 yX8_forceOf, .instanceMethod yX8_forceOf, .selects RX8 yX8_forceOf yX8_forceOf, .initialized RX8, .code yX8_forceOf cX8_forceOf 4 (some .int), .fieldLink RX8 148 "FeastLedgerModel" "customs" "I", .fieldLink RX8 29 "FeastLedgerModel" "since" "[I"] ++ wsX80)
def wsX8_term : List Cond := .code yX8_term cX8_term 3 (some .int) :: ([.fieldLink RX8 157 "FeastLedgerModel" "now" "I", .fieldLink RX8 32 "FeastLedgerModel" "terms" "[I", .methodLink RX8 154 yX8_forceOf, .instanceMethod yX8_forceOf, .selects RX8 yX8_forceOf yX8_forceOf, .initialized RX8, .code yX8_forceOf cX8_forceOf 4 (some .int), .fieldLink RX8 148 "FeastLedgerModel" "customs" "I", .fieldLink RX8 29 "FeastLedgerModel" "since" "[I"] ++ wsX80)
def wsX8_owe : List Cond := .code yX8_owe cX8_owe 7 none :: ([.fieldLink RX8 35 "FeastLedgerModel" "owes" "[I", .fieldLink RX8 160 "FeastLedgerModel" "debts" "I", .fieldLink RX8 38 "FeastLedgerModel" "whom" "[I", .fieldLink RX8 41 "FeastLedgerModel" "left" "[J", .fieldLink RX8 44 "FeastLedgerModel" "isLoan" "[Z", .fieldLink RX8 47 "FeastLedgerModel" "due" "[I"] ++ wsX80)
def wsX8_allOwed : List Cond := .code yX8_allOwed cX8_allOwed 6 (some .long) :: ([.fieldLink RX8 160 "FeastLedgerModel" "debts" "I", .fieldLink RX8 35 "FeastLedgerModel" "owes" "[I", .fieldLink RX8 38 "FeastLedgerModel" "whom" "[I", .fieldLink RX8 41 "FeastLedgerModel" "left" "[J"] ++ wsX80)
def wsX8_madeOf : List Cond := .code yX8_madeOf cX8_madeOf 11 (some .long) :: ([.constantLong RX8 170 (1000000000), .methodLink RX8 163 yX8_allOwed, .instanceMethod yX8_allOwed, .selects RX8 yX8_allOwed yX8_allOwed, .initialized RX8, .code yX8_allOwed cX8_allOwed 6 (some .long), .fieldLink RX8 160 "FeastLedgerModel" "debts" "I", .fieldLink RX8 35 "FeastLedgerModel" "owes" "[I", .fieldLink RX8 38 "FeastLedgerModel" "whom" "[I", .fieldLink RX8 41 "FeastLedgerModel" "left" "[J", .methodLink RX8 167 yX8_term, .instanceMethod yX8_term, .selects RX8 yX8_term yX8_term, .code yX8_term cX8_term 3 (some .int), .fieldLink RX8 157 "FeastLedgerModel" "now" "I", .fieldLink RX8 32 "FeastLedgerModel" "terms" "[I", .methodLink RX8 154 yX8_forceOf, .instanceMethod yX8_forceOf, .selects RX8 yX8_forceOf yX8_forceOf, .code yX8_forceOf cX8_forceOf 4 (some .int), .fieldLink RX8 148 "FeastLedgerModel" "customs" "I", .fieldLink RX8 29 "FeastLedgerModel" "since" "[I"] ++ wsX80)
def wsX8_next : List Cond := .code yX8_next cX8_next 5 (some .int) :: ([.fieldLink RX8 160 "FeastLedgerModel" "debts" "I", .fieldLink RX8 35 "FeastLedgerModel" "owes" "[I", .fieldLink RX8 38 "FeastLedgerModel" "whom" "[I", .fieldLink RX8 41 "FeastLedgerModel" "left" "[J", .fieldLink RX8 44 "FeastLedgerModel" "isLoan" "[Z", .fieldLink RX8 47 "FeastLedgerModel" "due" "[I"] ++ wsX80)
def wsX8_gives_r1 : List Cond := [Cond.fieldLink RX8 41 "FeastLedgerModel" "left" "[J", Cond.fieldLink RX8 157 "FeastLedgerModel" "now" "I", Cond.fieldLink RX8 13 "FeastLedgerModel" "fames" "[J", Cond.methodLink RX8 172 yX8_madeOf, Cond.instanceMethod yX8_madeOf, Cond.selects RX8 yX8_madeOf yX8_madeOf, Cond.initialized RX8, Cond.code yX8_madeOf cX8_madeOf 11 (some .long), Cond.constantLong RX8 170 (1000000000), Cond.methodLink RX8 163 yX8_allOwed, Cond.instanceMethod yX8_allOwed, Cond.selects RX8 yX8_allOwed yX8_allOwed, Cond.code yX8_allOwed cX8_allOwed 6 (some .long), Cond.fieldLink RX8 160 "FeastLedgerModel" "debts" "I", Cond.fieldLink RX8 35 "FeastLedgerModel" "owes" "[I", Cond.fieldLink RX8 38 "FeastLedgerModel" "whom" "[I", Cond.methodLink RX8 167 yX8_term, Cond.instanceMethod yX8_term, Cond.selects RX8 yX8_term yX8_term, Cond.code yX8_term cX8_term 3 (some .int), Cond.fieldLink RX8 32 "FeastLedgerModel" "terms" "[I", Cond.methodLink RX8 154 yX8_forceOf, Cond.instanceMethod yX8_forceOf, Cond.selects RX8 yX8_forceOf yX8_forceOf]
def wsX8_gives_r2 : List Cond := [Cond.code yX8_forceOf cX8_forceOf 4 (some .int), Cond.fieldLink RX8 148 "FeastLedgerModel" "customs" "I", Cond.fieldLink RX8 29 "FeastLedgerModel" "since" "[I", Cond.methodLink RX8 176 yX8_next, Cond.instanceMethod yX8_next, Cond.selects RX8 yX8_next yX8_next, Cond.code yX8_next cX8_next 5 (some .int), Cond.fieldLink RX8 44 "FeastLedgerModel" "isLoan" "[Z", Cond.fieldLink RX8 47 "FeastLedgerModel" "due" "[I", Cond.methodLink RX8 180 yX8_owe, Cond.instanceMethod yX8_owe, Cond.selects RX8 yX8_owe yX8_owe, Cond.code yX8_owe cX8_owe 7 none]
def wsX8_gives : List Cond := .code yX8_gives cX8_gives 11 (some .int) :: ((wsX8_gives_r1 ++ wsX8_gives_r2) ++ wsX80)
def wsX8_isPair : List Cond := .code yX8_isPair cX8_isPair 4 (some .boolean) :: ([.fieldLink RX8 17 "FeastLedgerModel" "isDead" "[Z", .methodLink RX8 184 yX8_isChief, .instanceMethod yX8_isChief, .selects RX8 yX8_isChief yX8_isChief, .initialized RX8, .code yX8_isChief cX8_isChief 2 (some .boolean), .fieldLink RX8 82 "FeastLedgerModel" "chiefs" "I", .methodLink RX8 78 yX8_bad, .instanceMethod yX8_bad, .selects RX8 yX8_bad yX8_bad, .code yX8_bad cX8_bad 3 (some .boolean), .fieldLink RX8 74 "FeastLedgerModel" "thrown" "I"] ++ wsX80)
def wsX8_give_r1 : List Cond := [Cond.fieldLink RX8 74 "FeastLedgerModel" "thrown" "I", Cond.fieldLink RX8 9 "FeastLedgerModel" "blankets" "[I", Cond.fieldLink RX8 160 "FeastLedgerModel" "debts" "I", Cond.methodLink RX8 187 yX8_isPair, Cond.instanceMethod yX8_isPair, Cond.selects RX8 yX8_isPair yX8_isPair, Cond.initialized RX8, Cond.code yX8_isPair cX8_isPair 4 (some .boolean), Cond.fieldLink RX8 17 "FeastLedgerModel" "isDead" "[Z", Cond.methodLink RX8 184 yX8_isChief, Cond.instanceMethod yX8_isChief, Cond.selects RX8 yX8_isChief yX8_isChief, Cond.code yX8_isChief cX8_isChief 2 (some .boolean), Cond.fieldLink RX8 82 "FeastLedgerModel" "chiefs" "I", Cond.methodLink RX8 78 yX8_bad, Cond.instanceMethod yX8_bad, Cond.selects RX8 yX8_bad yX8_bad, Cond.code yX8_bad cX8_bad 3 (some .boolean), Cond.methodLink RX8 172 yX8_madeOf, Cond.instanceMethod yX8_madeOf, Cond.selects RX8 yX8_madeOf yX8_madeOf, Cond.code yX8_madeOf cX8_madeOf 11 (some .long), Cond.constantLong RX8 170 (1000000000), Cond.methodLink RX8 163 yX8_allOwed]
def wsX8_give_r2 : List Cond := [Cond.instanceMethod yX8_allOwed, Cond.selects RX8 yX8_allOwed yX8_allOwed, Cond.code yX8_allOwed cX8_allOwed 6 (some .long), Cond.fieldLink RX8 35 "FeastLedgerModel" "owes" "[I", Cond.fieldLink RX8 38 "FeastLedgerModel" "whom" "[I", Cond.fieldLink RX8 41 "FeastLedgerModel" "left" "[J", Cond.methodLink RX8 167 yX8_term, Cond.instanceMethod yX8_term, Cond.selects RX8 yX8_term yX8_term, Cond.code yX8_term cX8_term 3 (some .int), Cond.fieldLink RX8 157 "FeastLedgerModel" "now" "I", Cond.fieldLink RX8 32 "FeastLedgerModel" "terms" "[I", Cond.methodLink RX8 154 yX8_forceOf, Cond.instanceMethod yX8_forceOf, Cond.selects RX8 yX8_forceOf yX8_forceOf, Cond.code yX8_forceOf cX8_forceOf 4 (some .int), Cond.fieldLink RX8 148 "FeastLedgerModel" "customs" "I", Cond.fieldLink RX8 29 "FeastLedgerModel" "since" "[I", Cond.methodLink RX8 191 yX8_gives, Cond.instanceMethod yX8_gives, Cond.selects RX8 yX8_gives yX8_gives, Cond.code yX8_gives cX8_gives 11 (some .int), Cond.fieldLink RX8 13 "FeastLedgerModel" "fames" "[J", Cond.methodLink RX8 176 yX8_next]
def wsX8_give_r3 : List Cond := [Cond.instanceMethod yX8_next, Cond.selects RX8 yX8_next yX8_next, Cond.code yX8_next cX8_next 5 (some .int), Cond.fieldLink RX8 44 "FeastLedgerModel" "isLoan" "[Z", Cond.fieldLink RX8 47 "FeastLedgerModel" "due" "[I", Cond.methodLink RX8 180 yX8_owe, Cond.instanceMethod yX8_owe, Cond.selects RX8 yX8_owe yX8_owe, Cond.code yX8_owe cX8_owe 7 none]
def wsX8_give : List Cond := .code yX8_give cX8_give 4 (some .int) :: ((wsX8_give_r1 ++ (wsX8_give_r2 ++ wsX8_give_r3)) ++ wsX80)
def wsX8_lend_r1 : List Cond := [Cond.fieldLink RX8 74 "FeastLedgerModel" "thrown" "I", Cond.fieldLink RX8 9 "FeastLedgerModel" "blankets" "[I", Cond.fieldLink RX8 160 "FeastLedgerModel" "debts" "I", Cond.methodLink RX8 187 yX8_isPair, Cond.instanceMethod yX8_isPair, Cond.selects RX8 yX8_isPair yX8_isPair, Cond.initialized RX8, Cond.code yX8_isPair cX8_isPair 4 (some .boolean), Cond.fieldLink RX8 17 "FeastLedgerModel" "isDead" "[Z", Cond.methodLink RX8 184 yX8_isChief, Cond.instanceMethod yX8_isChief, Cond.selects RX8 yX8_isChief yX8_isChief, Cond.code yX8_isChief cX8_isChief 2 (some .boolean), Cond.fieldLink RX8 82 "FeastLedgerModel" "chiefs" "I", Cond.methodLink RX8 78 yX8_bad, Cond.instanceMethod yX8_bad, Cond.selects RX8 yX8_bad yX8_bad, Cond.code yX8_bad cX8_bad 3 (some .boolean), Cond.methodLink RX8 180 yX8_owe, Cond.instanceMethod yX8_owe, Cond.selects RX8 yX8_owe yX8_owe, Cond.code yX8_owe cX8_owe 7 none, Cond.fieldLink RX8 35 "FeastLedgerModel" "owes" "[I", Cond.fieldLink RX8 38 "FeastLedgerModel" "whom" "[I"]
def wsX8_lend_r2 : List Cond := [Cond.fieldLink RX8 41 "FeastLedgerModel" "left" "[J", Cond.fieldLink RX8 44 "FeastLedgerModel" "isLoan" "[Z", Cond.fieldLink RX8 47 "FeastLedgerModel" "due" "[I"]
def wsX8_lend : List Cond := .code yX8_lend cX8_lend 4 (some .int) :: ((wsX8_lend_r1 ++ wsX8_lend_r2) ++ wsX80)
def wsX8_copper : List Cond := .code yX8_copper cX8_copper 3 (some .int) :: ([.fieldLink RX8 74 "FeastLedgerModel" "thrown" "I", .constant RX8 77 (1000000), .fieldLink RX8 17 "FeastLedgerModel" "isDead" "[Z", .fieldLink RX8 195 "FeastLedgerModel" "coppers" "I", .fieldLink RX8 50 "FeastLedgerModel" "owner" "[I", .fieldLink RX8 53 "FeastLedgerModel" "worth" "[I", .fieldLink RX8 56 "FeastLedgerModel" "first" "[I", .methodLink RX8 184 yX8_isChief, .instanceMethod yX8_isChief, .selects RX8 yX8_isChief yX8_isChief, .initialized RX8, .code yX8_isChief cX8_isChief 2 (some .boolean), .fieldLink RX8 82 "FeastLedgerModel" "chiefs" "I", .methodLink RX8 78 yX8_bad, .instanceMethod yX8_bad, .selects RX8 yX8_bad yX8_bad, .code yX8_bad cX8_bad 3 (some .boolean)] ++ wsX80)
def wsX8_isCopper : List Cond := .code yX8_isCopper cX8_isCopper 2 (some .boolean) :: ([.fieldLink RX8 195 "FeastLedgerModel" "coppers" "I"] ++ wsX80)
def wsX8_pass_r1 : List Cond := [Cond.fieldLink RX8 74 "FeastLedgerModel" "thrown" "I", Cond.fieldLink RX8 50 "FeastLedgerModel" "owner" "[I", Cond.fieldLink RX8 17 "FeastLedgerModel" "isDead" "[Z", Cond.fieldLink RX8 53 "FeastLedgerModel" "worth" "[I", Cond.fieldLink RX8 160 "FeastLedgerModel" "debts" "I", Cond.methodLink RX8 198 yX8_isCopper, Cond.instanceMethod yX8_isCopper, Cond.selects RX8 yX8_isCopper yX8_isCopper, Cond.initialized RX8, Cond.code yX8_isCopper cX8_isCopper 2 (some .boolean), Cond.fieldLink RX8 195 "FeastLedgerModel" "coppers" "I", Cond.methodLink RX8 184 yX8_isChief, Cond.instanceMethod yX8_isChief, Cond.selects RX8 yX8_isChief yX8_isChief, Cond.code yX8_isChief cX8_isChief 2 (some .boolean), Cond.fieldLink RX8 82 "FeastLedgerModel" "chiefs" "I", Cond.methodLink RX8 78 yX8_bad, Cond.instanceMethod yX8_bad, Cond.selects RX8 yX8_bad yX8_bad, Cond.code yX8_bad cX8_bad 3 (some .boolean), Cond.methodLink RX8 172 yX8_madeOf, Cond.instanceMethod yX8_madeOf, Cond.selects RX8 yX8_madeOf yX8_madeOf, Cond.code yX8_madeOf cX8_madeOf 11 (some .long)]
def wsX8_pass_r2 : List Cond := [Cond.constantLong RX8 170 (1000000000), Cond.methodLink RX8 163 yX8_allOwed, Cond.instanceMethod yX8_allOwed, Cond.selects RX8 yX8_allOwed yX8_allOwed, Cond.code yX8_allOwed cX8_allOwed 6 (some .long), Cond.fieldLink RX8 35 "FeastLedgerModel" "owes" "[I", Cond.fieldLink RX8 38 "FeastLedgerModel" "whom" "[I", Cond.fieldLink RX8 41 "FeastLedgerModel" "left" "[J", Cond.methodLink RX8 167 yX8_term, Cond.instanceMethod yX8_term, Cond.selects RX8 yX8_term yX8_term, Cond.code yX8_term cX8_term 3 (some .int), Cond.fieldLink RX8 157 "FeastLedgerModel" "now" "I", Cond.fieldLink RX8 32 "FeastLedgerModel" "terms" "[I", Cond.methodLink RX8 154 yX8_forceOf, Cond.instanceMethod yX8_forceOf, Cond.selects RX8 yX8_forceOf yX8_forceOf, Cond.code yX8_forceOf cX8_forceOf 4 (some .int), Cond.fieldLink RX8 148 "FeastLedgerModel" "customs" "I", Cond.fieldLink RX8 29 "FeastLedgerModel" "since" "[I", Cond.methodLink RX8 191 yX8_gives, Cond.instanceMethod yX8_gives, Cond.selects RX8 yX8_gives yX8_gives, Cond.code yX8_gives cX8_gives 11 (some .int)]
def wsX8_pass_r3 : List Cond := [Cond.fieldLink RX8 13 "FeastLedgerModel" "fames" "[J", Cond.methodLink RX8 176 yX8_next, Cond.instanceMethod yX8_next, Cond.selects RX8 yX8_next yX8_next, Cond.code yX8_next cX8_next 5 (some .int), Cond.fieldLink RX8 44 "FeastLedgerModel" "isLoan" "[Z", Cond.fieldLink RX8 47 "FeastLedgerModel" "due" "[I", Cond.methodLink RX8 180 yX8_owe, Cond.instanceMethod yX8_owe, Cond.selects RX8 yX8_owe yX8_owe, Cond.code yX8_owe cX8_owe 7 none]
def wsX8_pass : List Cond := .code yX8_pass cX8_pass 4 (some .int) :: ((wsX8_pass_r1 ++ (wsX8_pass_r2 ++ wsX8_pass_r3)) ++ wsX80)
def wsX8_breaks : List Cond := .code yX8_breaks cX8_breaks 3 (some .int) :: ([.fieldLink RX8 74 "FeastLedgerModel" "thrown" "I", .fieldLink RX8 53 "FeastLedgerModel" "worth" "[I", .fieldLink RX8 56 "FeastLedgerModel" "first" "[I", .methodLink RX8 198 yX8_isCopper, .instanceMethod yX8_isCopper, .selects RX8 yX8_isCopper yX8_isCopper, .initialized RX8, .code yX8_isCopper cX8_isCopper 2 (some .boolean), .fieldLink RX8 195 "FeastLedgerModel" "coppers" "I", .methodLink RX8 78 yX8_bad, .instanceMethod yX8_bad, .selects RX8 yX8_bad yX8_bad, .code yX8_bad cX8_bad 3 (some .boolean)] ++ wsX80)
def wsX8_copperTold : List Cond := .code yX8_copperTold cX8_copperTold 3 (some .int) :: ([.fieldLink RX8 74 "FeastLedgerModel" "thrown" "I", .fieldLink RX8 50 "FeastLedgerModel" "owner" "[I", .fieldLink RX8 53 "FeastLedgerModel" "worth" "[I", .methodLink RX8 198 yX8_isCopper, .instanceMethod yX8_isCopper, .selects RX8 yX8_isCopper yX8_isCopper, .initialized RX8, .code yX8_isCopper cX8_isCopper 2 (some .boolean), .fieldLink RX8 195 "FeastLedgerModel" "coppers" "I", .methodLink RX8 78 yX8_bad, .instanceMethod yX8_bad, .selects RX8 yX8_bad yX8_bad, .code yX8_bad cX8_bad 3 (some .boolean)] ++ wsX80)
def wsX8_isIn : List Cond := .code yX8_isIn cX8_isIn 2 (some .boolean) :: ([])
def wsX8_feast_r1 : List Cond := [Cond.fieldLink RX8 74 "FeastLedgerModel" "thrown" "I", Cond.fieldLink RX8 82 "FeastLedgerModel" "chiefs" "I", Cond.constant RX8 205 (100000), Cond.fieldLink RX8 17 "FeastLedgerModel" "isDead" "[Z", Cond.fieldLink RX8 9 "FeastLedgerModel" "blankets" "[I", Cond.fieldLink RX8 160 "FeastLedgerModel" "debts" "I", Cond.methodLink RX8 184 yX8_isChief, Cond.instanceMethod yX8_isChief, Cond.selects RX8 yX8_isChief yX8_isChief, Cond.initialized RX8, Cond.code yX8_isChief cX8_isChief 2 (some .boolean), Cond.methodLink RX8 78 yX8_bad, Cond.instanceMethod yX8_bad, Cond.selects RX8 yX8_bad yX8_bad, Cond.code yX8_bad cX8_bad 3 (some .boolean), Cond.methodLink RX8 201 yX8_isIn, Cond.static yX8_isIn, Cond.code yX8_isIn cX8_isIn 2 (some .boolean), Cond.methodLink RX8 167 yX8_term, Cond.instanceMethod yX8_term, Cond.selects RX8 yX8_term yX8_term, Cond.code yX8_term cX8_term 3 (some .int), Cond.fieldLink RX8 157 "FeastLedgerModel" "now" "I", Cond.fieldLink RX8 32 "FeastLedgerModel" "terms" "[I"]
def wsX8_feast_r2 : List Cond := [Cond.methodLink RX8 154 yX8_forceOf, Cond.instanceMethod yX8_forceOf, Cond.selects RX8 yX8_forceOf yX8_forceOf, Cond.code yX8_forceOf cX8_forceOf 4 (some .int), Cond.fieldLink RX8 148 "FeastLedgerModel" "customs" "I", Cond.fieldLink RX8 29 "FeastLedgerModel" "since" "[I", Cond.methodLink RX8 172 yX8_madeOf, Cond.instanceMethod yX8_madeOf, Cond.selects RX8 yX8_madeOf yX8_madeOf, Cond.code yX8_madeOf cX8_madeOf 11 (some .long), Cond.constantLong RX8 170 (1000000000), Cond.methodLink RX8 163 yX8_allOwed, Cond.instanceMethod yX8_allOwed, Cond.selects RX8 yX8_allOwed yX8_allOwed, Cond.code yX8_allOwed cX8_allOwed 6 (some .long), Cond.fieldLink RX8 35 "FeastLedgerModel" "owes" "[I", Cond.fieldLink RX8 38 "FeastLedgerModel" "whom" "[I", Cond.fieldLink RX8 41 "FeastLedgerModel" "left" "[J", Cond.methodLink RX8 191 yX8_gives, Cond.instanceMethod yX8_gives, Cond.selects RX8 yX8_gives yX8_gives, Cond.code yX8_gives cX8_gives 11 (some .int), Cond.fieldLink RX8 13 "FeastLedgerModel" "fames" "[J", Cond.methodLink RX8 176 yX8_next]
def wsX8_feast_r3 : List Cond := [Cond.instanceMethod yX8_next, Cond.selects RX8 yX8_next yX8_next, Cond.code yX8_next cX8_next 5 (some .int), Cond.fieldLink RX8 44 "FeastLedgerModel" "isLoan" "[Z", Cond.fieldLink RX8 47 "FeastLedgerModel" "due" "[I", Cond.methodLink RX8 180 yX8_owe, Cond.instanceMethod yX8_owe, Cond.selects RX8 yX8_owe yX8_owe, Cond.code yX8_owe cX8_owe 7 none]
def wsX8_feast : List Cond := .code yX8_feast cX8_feast 12 (some .int) :: ((wsX8_feast_r1 ++ (wsX8_feast_r2 ++ wsX8_feast_r3)) ++ wsX80)
def wsX8_died : List Cond := .code yX8_died cX8_died 5 (some .int) :: ([.fieldLink RX8 74 "FeastLedgerModel" "thrown" "I", .fieldLink RX8 17 "FeastLedgerModel" "isDead" "[Z", .fieldLink RX8 9 "FeastLedgerModel" "blankets" "[I", .fieldLink RX8 195 "FeastLedgerModel" "coppers" "I", .fieldLink RX8 50 "FeastLedgerModel" "owner" "[I", .fieldLink RX8 160 "FeastLedgerModel" "debts" "I", .fieldLink RX8 41 "FeastLedgerModel" "left" "[J", .fieldLink RX8 35 "FeastLedgerModel" "owes" "[I", .fieldLink RX8 38 "FeastLedgerModel" "whom" "[I", .methodLink RX8 184 yX8_isChief, .instanceMethod yX8_isChief, .selects RX8 yX8_isChief yX8_isChief, .initialized RX8, .code yX8_isChief cX8_isChief 2 (some .boolean), .fieldLink RX8 82 "FeastLedgerModel" "chiefs" "I", .methodLink RX8 78 yX8_bad, .instanceMethod yX8_bad, .selects RX8 yX8_bad yX8_bad, .code yX8_bad cX8_bad 3 (some .boolean)] ++ wsX80)
def wsX8_wait : List Cond := .code yX8_wait cX8_wait 6 (some .int) :: ([.fieldLink RX8 74 "FeastLedgerModel" "thrown" "I", .fieldLink RX8 157 "FeastLedgerModel" "now" "I", .fieldLink RX8 160 "FeastLedgerModel" "debts" "I", .fieldLink RX8 44 "FeastLedgerModel" "isLoan" "[Z", .fieldLink RX8 41 "FeastLedgerModel" "left" "[J", .constantLong RX8 170 (1000000000), .methodLink RX8 78 yX8_bad, .instanceMethod yX8_bad, .selects RX8 yX8_bad yX8_bad, .initialized RX8, .code yX8_bad cX8_bad 3 (some .boolean), .methodLink RX8 167 yX8_term, .instanceMethod yX8_term, .selects RX8 yX8_term yX8_term, .code yX8_term cX8_term 3 (some .int), .fieldLink RX8 32 "FeastLedgerModel" "terms" "[I", .methodLink RX8 154 yX8_forceOf, .instanceMethod yX8_forceOf, .selects RX8 yX8_forceOf yX8_forceOf, .code yX8_forceOf cX8_forceOf 4 (some .int), .fieldLink RX8 148 "FeastLedgerModel" "customs" "I", .fieldLink RX8 29 "FeastLedgerModel" "since" "[I"] ++ wsX80)
def wsX8_debt : List Cond := .code yX8_debt cX8_debt 3 (some .int) :: ([.fieldLink RX8 74 "FeastLedgerModel" "thrown" "I", .fieldLink RX8 160 "FeastLedgerModel" "debts" "I", .fieldLink RX8 35 "FeastLedgerModel" "owes" "[I", .fieldLink RX8 38 "FeastLedgerModel" "whom" "[I", .fieldLink RX8 41 "FeastLedgerModel" "left" "[J", .fieldLink RX8 44 "FeastLedgerModel" "isLoan" "[Z", .fieldLink RX8 47 "FeastLedgerModel" "due" "[I", .methodLink RX8 78 yX8_bad, .instanceMethod yX8_bad, .selects RX8 yX8_bad yX8_bad, .initialized RX8, .code yX8_bad cX8_bad 3 (some .boolean)] ++ wsX80)
def wsX8_late : List Cond := .code yX8_late cX8_late 4 (some .int) :: ([.fieldLink RX8 74 "FeastLedgerModel" "thrown" "I", .fieldLink RX8 160 "FeastLedgerModel" "debts" "I", .fieldLink RX8 44 "FeastLedgerModel" "isLoan" "[Z", .fieldLink RX8 41 "FeastLedgerModel" "left" "[J", .fieldLink RX8 47 "FeastLedgerModel" "due" "[I", .fieldLink RX8 157 "FeastLedgerModel" "now" "I"] ++ wsX80)
def wsX8_about : List Cond := .code yX8_about cX8_about 5 (some .int) :: ([.fieldLink RX8 74 "FeastLedgerModel" "thrown" "I", .fieldLink RX8 9 "FeastLedgerModel" "blankets" "[I", .fieldLink RX8 17 "FeastLedgerModel" "isDead" "[Z", .fieldLink RX8 82 "FeastLedgerModel" "chiefs" "I", .fieldLink RX8 13 "FeastLedgerModel" "fames" "[J", .methodLink RX8 184 yX8_isChief, .instanceMethod yX8_isChief, .selects RX8 yX8_isChief yX8_isChief, .initialized RX8, .code yX8_isChief cX8_isChief 2 (some .boolean), .methodLink RX8 78 yX8_bad, .instanceMethod yX8_bad, .selects RX8 yX8_bad yX8_bad, .code yX8_bad cX8_bad 3 (some .boolean)] ++ wsX80)
def wsX8_fame : List Cond := .code yX8_fame cX8_fame 2 (some .long) :: ([.fieldLink RX8 74 "FeastLedgerModel" "thrown" "I", .fieldLink RX8 13 "FeastLedgerModel" "fames" "[J", .methodLink RX8 184 yX8_isChief, .instanceMethod yX8_isChief, .selects RX8 yX8_isChief yX8_isChief, .initialized RX8, .code yX8_isChief cX8_isChief 2 (some .boolean), .fieldLink RX8 82 "FeastLedgerModel" "chiefs" "I", .methodLink RX8 78 yX8_bad, .instanceMethod yX8_bad, .selects RX8 yX8_bad yX8_bad, .code yX8_bad cX8_bad 3 (some .boolean)] ++ wsX80)
def wsX8_ways : List Cond := .code yX8_ways cX8_ways 4 none :: ([.fieldLink RX8 82 "FeastLedgerModel" "chiefs" "I", .fieldLink RX8 68 "FeastLedgerModel" "isSeen" "[Z", .fieldLink RX8 65 "FeastLedgerModel" "to" "[I", .fieldLink RX8 71 "FeastLedgerModel" "row" "[I", .fieldLink RX8 206 "FeastLedgerModel" "seen" "I", .fieldLink RX8 59 "FeastLedgerModel" "can" "[J"] ++ wsX80)
def wsX8_gathers : List Cond := .code yX8_gathers cX8_gathers 11 (some .long) :: ([.fieldLink RX8 59 "FeastLedgerModel" "can" "[J", .fieldLink RX8 82 "FeastLedgerModel" "chiefs" "I", .fieldLink RX8 62 "FeastLedgerModel" "has" "[J", .fieldLink RX8 9 "FeastLedgerModel" "blankets" "[I", .fieldLink RX8 160 "FeastLedgerModel" "debts" "I", .fieldLink RX8 44 "FeastLedgerModel" "isLoan" "[Z", .fieldLink RX8 47 "FeastLedgerModel" "due" "[I", .fieldLink RX8 35 "FeastLedgerModel" "owes" "[I", .fieldLink RX8 38 "FeastLedgerModel" "whom" "[I", .fieldLink RX8 41 "FeastLedgerModel" "left" "[J", .fieldLink RX8 206 "FeastLedgerModel" "seen" "I", .fieldLink RX8 71 "FeastLedgerModel" "row" "[I", .fieldLink RX8 65 "FeastLedgerModel" "to" "[I", .methodLink RX8 209 yX8_ways, .instanceMethod yX8_ways, .selects RX8 yX8_ways yX8_ways, .initialized RX8, .code yX8_ways cX8_ways 4 none, .fieldLink RX8 68 "FeastLedgerModel" "isSeen" "[Z"] ++ wsX80)
def wsX8_gather_r1 : List Cond := [Cond.fieldLink RX8 74 "FeastLedgerModel" "thrown" "I", Cond.fieldLink RX8 17 "FeastLedgerModel" "isDead" "[Z", Cond.constantLong RX8 212 (-1), Cond.methodLink RX8 184 yX8_isChief, Cond.instanceMethod yX8_isChief, Cond.selects RX8 yX8_isChief yX8_isChief, Cond.initialized RX8, Cond.code yX8_isChief cX8_isChief 2 (some .boolean), Cond.fieldLink RX8 82 "FeastLedgerModel" "chiefs" "I", Cond.methodLink RX8 78 yX8_bad, Cond.instanceMethod yX8_bad, Cond.selects RX8 yX8_bad yX8_bad, Cond.code yX8_bad cX8_bad 3 (some .boolean), Cond.methodLink RX8 214 yX8_gathers, Cond.instanceMethod yX8_gathers, Cond.selects RX8 yX8_gathers yX8_gathers, Cond.code yX8_gathers cX8_gathers 11 (some .long), Cond.fieldLink RX8 59 "FeastLedgerModel" "can" "[J", Cond.fieldLink RX8 62 "FeastLedgerModel" "has" "[J", Cond.fieldLink RX8 9 "FeastLedgerModel" "blankets" "[I", Cond.fieldLink RX8 160 "FeastLedgerModel" "debts" "I", Cond.fieldLink RX8 44 "FeastLedgerModel" "isLoan" "[Z", Cond.fieldLink RX8 47 "FeastLedgerModel" "due" "[I", Cond.fieldLink RX8 35 "FeastLedgerModel" "owes" "[I"]
def wsX8_gather_r2 : List Cond := [Cond.fieldLink RX8 38 "FeastLedgerModel" "whom" "[I", Cond.fieldLink RX8 41 "FeastLedgerModel" "left" "[J", Cond.fieldLink RX8 206 "FeastLedgerModel" "seen" "I", Cond.fieldLink RX8 71 "FeastLedgerModel" "row" "[I", Cond.fieldLink RX8 65 "FeastLedgerModel" "to" "[I", Cond.methodLink RX8 209 yX8_ways, Cond.instanceMethod yX8_ways, Cond.selects RX8 yX8_ways yX8_ways, Cond.code yX8_ways cX8_ways 4 none, Cond.fieldLink RX8 68 "FeastLedgerModel" "isSeen" "[Z"]
def wsX8_gather : List Cond := .code yX8_gather cX8_gather 3 (some .long) :: ((wsX8_gather_r1 ++ wsX8_gather_r2) ++ wsX80)
def wsX8_hold_r1 : List Cond := [Cond.fieldLink RX8 74 "FeastLedgerModel" "thrown" "I", Cond.fieldLink RX8 17 "FeastLedgerModel" "isDead" "[Z", Cond.fieldLink RX8 82 "FeastLedgerModel" "chiefs" "I", Cond.fieldLink RX8 68 "FeastLedgerModel" "isSeen" "[Z", Cond.methodLink RX8 184 yX8_isChief, Cond.instanceMethod yX8_isChief, Cond.selects RX8 yX8_isChief yX8_isChief, Cond.initialized RX8, Cond.code yX8_isChief cX8_isChief 2 (some .boolean), Cond.methodLink RX8 78 yX8_bad, Cond.instanceMethod yX8_bad, Cond.selects RX8 yX8_bad yX8_bad, Cond.code yX8_bad cX8_bad 3 (some .boolean), Cond.methodLink RX8 214 yX8_gathers, Cond.instanceMethod yX8_gathers, Cond.selects RX8 yX8_gathers yX8_gathers, Cond.code yX8_gathers cX8_gathers 11 (some .long), Cond.fieldLink RX8 59 "FeastLedgerModel" "can" "[J", Cond.fieldLink RX8 62 "FeastLedgerModel" "has" "[J", Cond.fieldLink RX8 9 "FeastLedgerModel" "blankets" "[I", Cond.fieldLink RX8 160 "FeastLedgerModel" "debts" "I", Cond.fieldLink RX8 44 "FeastLedgerModel" "isLoan" "[Z", Cond.fieldLink RX8 47 "FeastLedgerModel" "due" "[I", Cond.fieldLink RX8 35 "FeastLedgerModel" "owes" "[I"]
def wsX8_hold_r2 : List Cond := [Cond.fieldLink RX8 38 "FeastLedgerModel" "whom" "[I", Cond.fieldLink RX8 41 "FeastLedgerModel" "left" "[J", Cond.fieldLink RX8 206 "FeastLedgerModel" "seen" "I", Cond.fieldLink RX8 71 "FeastLedgerModel" "row" "[I", Cond.fieldLink RX8 65 "FeastLedgerModel" "to" "[I", Cond.methodLink RX8 209 yX8_ways, Cond.instanceMethod yX8_ways, Cond.selects RX8 yX8_ways yX8_ways, Cond.code yX8_ways cX8_ways 4 none]
def wsX8_hold : List Cond := .code yX8_hold cX8_hold 7 (some .int) :: ((wsX8_hold_r1 ++ wsX8_hold_r2) ++ wsX80)
def wsX8_count : List Cond := .code yX8_count cX8_count 4 (some .int) :: ([.fieldLink RX8 74 "FeastLedgerModel" "thrown" "I", .fieldLink RX8 82 "FeastLedgerModel" "chiefs" "I", .fieldLink RX8 148 "FeastLedgerModel" "customs" "I", .fieldLink RX8 160 "FeastLedgerModel" "debts" "I", .fieldLink RX8 41 "FeastLedgerModel" "left" "[J", .fieldLink RX8 195 "FeastLedgerModel" "coppers" "I", .fieldLink RX8 157 "FeastLedgerModel" "now" "I", .fieldLink RX8 85 "FeastLedgerModel" "taped" "I"] ++ wsX80)
def wsJ9_max_7cf53 : List Cond := .code yJ9_max_7cf53 cJ9_max_7cf53 2 (some .int) :: ([])
def wsJ9_min_7cf53 : List Cond := .code yJ9_min_7cf53 cJ9_min_7cf53 2 (some .int) :: ([])
def wsJ9_min_f86c9 : List Cond := .code yJ9_min_f86c9 cJ9_min_f86c9 4 (some .long) :: ([])
def wsL_chief : List Cond := .codeWith yL_chief cL_chief 4 (some .int) [(0, 9, 12, 13), (0, 9, 15, 15)] :: ([.classLink RL 13 "java/lang/IllegalArgumentException", .classLink RL 15 "java/lang/IllegalStateException", .methodLink RL 7 yX7_chief, .instanceMethod yX7_chief, .selects RX7 yX7_chief yX7_chief, .initialized RX7, .code yX7_chief cX7_chief 2 (some .int), .classLink RX7 66 "java/lang/IllegalArgumentException", .initialized "java/lang/IllegalArgumentException", .classLink RX7 76 "java/lang/IllegalStateException", .initialized "java/lang/IllegalStateException", .constant RX7 65 (1000000), .fieldLink RX7 33 "FeastLedger" "chiefs" "LFeastLedger$Chiefs;", .fieldLink RX7 73 "FeastLedger$Chiefs" "size" "I", .methodLink RX7 81 yX0_add, .instanceMethod yX0_add, .selects RX0 yX0_add yX0_add, .initialized RX0, .code yX0_add cX0_add 2 (some .int), .fieldLink RX0 9 "FeastLedger$Chiefs" "blankets" "[I", .fieldLink RX0 23 "FeastLedger$Chiefs" "size" "I", .fieldLink RX0 19 "FeastLedger$Chiefs" "lives" "[Z"] ++ wsX70 ++ wsX00 ++ (vx_atS RX7 70 "java/lang/IllegalArgumentException" ["java/lang/RuntimeException", "java/lang/Exception"]).filter goodWord ++ (vx_atS RX7 80 "java/lang/IllegalStateException" ["java/lang/RuntimeException", "java/lang/Exception"]).filter goodWord)
def wsL_custom_r1 : List Cond := [Cond.classLink RL 13 "java/lang/IllegalArgumentException", Cond.classLink RL 15 "java/lang/IllegalStateException", Cond.methodLink RL 17 yX7_custom, Cond.instanceMethod yX7_custom, Cond.selects RX7 yX7_custom yX7_custom, Cond.initialized RX7, Cond.code yX7_custom cX7_custom 3 (some .int), Cond.classLink RX7 66 "java/lang/IllegalArgumentException", Cond.initialized "java/lang/IllegalArgumentException", Cond.classLink RX7 76 "java/lang/IllegalStateException", Cond.initialized "java/lang/IllegalStateException", Cond.fieldLink RX7 10 "FeastLedger" "tape" "LFeastLedger$Tape;", Cond.fieldLink RX7 85 "FeastLedger$Tape" "length" "I", Cond.fieldLink RX7 26 "FeastLedger" "customs" "LFeastLedger$Customs;", Cond.fieldLink RX7 94 "FeastLedger$Customs" "size" "I", Cond.fieldLink RX7 19 "FeastLedger" "reader" "LFeastLedger$TextReader;", Cond.fieldLink RX7 97 "FeastLedger$Tape" "bytes" "[B", Cond.fieldLink RX7 105 "FeastLedger$TextReader" "faultPlace" "I", Cond.fieldLink RX7 62 "FeastLedger" "faultPlace" "I", Cond.fieldLink RX7 106 "FeastLedger$TextReader" "fault" "I", Cond.methodLink RX7 101 yX6_read, Cond.instanceMethod yX6_read, Cond.selects RX6 yX6_read yX6_read, Cond.initialized RX6]
def wsL_custom_r2 : List Cond := [Cond.code yX6_read cX6_read 4 none, Cond.fieldLink RX6 9 "FeastLedger$TextReader" "text" "[B", Cond.methodLink RX6 15 arraycopyName, Cond.native arraycopyName, Cond.static arraycopyName, Cond.initialized "java/lang/System", Cond.fieldLink RX6 21 "FeastLedger$TextReader" "length" "I", Cond.fieldLink RX6 25 "FeastLedger$TextReader" "at" "I", Cond.fieldLink RX6 28 "FeastLedger$TextReader" "fault" "I", Cond.fieldLink RX6 31 "FeastLedger$TextReader" "faultPlace" "I", Cond.fieldLink RX6 34 "FeastLedger$TextReader" "returnBy" "I", Cond.fieldLink RX6 37 "FeastLedger$TextReader" "loanBy" "I", Cond.fieldLink RX6 40 "FeastLedger$TextReader" "witness" "I", Cond.methodLink RX6 43 yX6_skipBlanks, Cond.instanceMethod yX6_skipBlanks, Cond.selects RX6 yX6_skipBlanks yX6_skipBlanks, Cond.code yX6_skipBlanks cX6_skipBlanks 1 none, Cond.methodLink RX6 46 yX6_readClause, Cond.instanceMethod yX6_readClause, Cond.selects RX6 yX6_readClause yX6_readClause, Cond.code yX6_readClause cX6_readClause 6 none, Cond.methodLink RX6 50 yX6_skipLetters, Cond.instanceMethod yX6_skipLetters, Cond.selects RX6 yX6_skipLetters yX6_skipLetters]
def wsL_custom_r3 : List Cond := [Cond.code yX6_skipLetters cX6_skipLetters 1 none, Cond.methodLink RX6 55 yX6_spells, Cond.instanceMethod yX6_spells, Cond.selects RX6 yX6_spells yX6_spells, Cond.code yX6_spells cX6_spells 4 (some .boolean), Cond.methodLink RX6 99 yJ0_length_8abf5, Cond.instanceMethod yJ0_length_8abf5, Cond.selects RJ0 yJ0_length_8abf5 yJ0_length_8abf5, Cond.initialized RJ0, Cond.code yJ0_length_8abf5 cJ0_length_8abf5 1 (some .int), Cond.fieldLink RJ0 9 "java/lang/String" "value" "[B", Cond.methodLink RJ0 335 yJ0_coder_7d493, Cond.instanceMethod yJ0_coder_7d493, Cond.selects RJ0 yJ0_coder_7d493 yJ0_coder_7d493, Cond.code yJ0_coder_7d493 cJ0_coder_7d493 1 (some .byte), Cond.fieldLink RJ0 38 "java/lang/String" "COMPACT_STRINGS" "Z", Cond.fieldLink RJ0 15 "java/lang/String" "coder" "B", Cond.methodLink RX6 104 yJ0_charAt_5068e, Cond.instanceMethod yJ0_charAt_5068e, Cond.selects RJ0 yJ0_charAt_5068e yJ0_charAt_5068e, Cond.code yJ0_charAt_5068e cJ0_charAt_5068e 2 (some .char), Cond.methodLink RJ0 492 yJ0_isLatin1_aae02, Cond.instanceMethod yJ0_isLatin1_aae02, Cond.selects RJ0 yJ0_isLatin1_aae02 yJ0_isLatin1_aae02]
def wsL_custom_r4 : List Cond := [Cond.code yJ0_isLatin1_aae02 cJ0_isLatin1_aae02 1 (some .boolean), Cond.methodLink RJ0 495 yJ1_charAt_3b067, Cond.static yJ1_charAt_3b067, Cond.initialized RJ1, Cond.code yJ1_charAt_3b067 cJ1_charAt_3b067 2 (some .char), Cond.methodLink RJ1 9 yJ0_checkIndex_df160, Cond.static yJ0_checkIndex_df160, Cond.code yJ0_checkIndex_df160 cJ0_checkIndex_df160 2 none, Cond.fieldLink RJ0 1053 "jdk/internal/util/Preconditions" "SIOOBE_FORMATTER" "Ljava/util/function/BiFunction;", Cond.methodLink RJ0 1059 yJ3_checkIndex_8e157, Cond.static yJ3_checkIndex_8e157, Cond.initialized RJ3, Cond.code yJ3_checkIndex_8e157 cJ3_checkIndex_8e157 3 (some .int), Cond.methodLink RJ0 498 yJ2_charAt_3b067, Cond.static yJ2_charAt_3b067, Cond.initialized RJ2, Cond.code yJ2_charAt_3b067 cJ2_charAt_3b067 2 (some .char), Cond.methodLink RJ2 67 yJ2_checkIndex_2214a, Cond.static yJ2_checkIndex_2214a, Cond.code yJ2_checkIndex_2214a cJ2_checkIndex_2214a 2 none, Cond.methodLink RJ2 48 yJ2_length_9d52b, Cond.static yJ2_length_9d52b, Cond.code yJ2_length_9d52b cJ2_length_9d52b 1 (some .int), Cond.methodLink RJ2 414 yJ0_checkIndex_df160]
def wsL_custom_r5 : List Cond := [Cond.methodLink RJ2 71 yJ2_getChar_3b067, Cond.static yJ2_getChar_3b067, Cond.code yJ2_getChar_3b067 cJ2_getChar_3b067 2 (some .char), Cond.fieldLink RJ2 44 "java/lang/StringUTF16" "$assertionsDisabled" "Z", Cond.fieldLink RJ2 59 "java/lang/StringUTF16" "HI_BYTE_SHIFT" "I", Cond.fieldLink RJ2 63 "java/lang/StringUTF16" "LO_BYTE_SHIFT" "I", Cond.methodLink RX6 62 yX6_mark, Cond.instanceMethod yX6_mark, Cond.selects RX6 yX6_mark yX6_mark, Cond.code yX6_mark cX6_mark 3 none, Cond.methodLink RX6 66 yX6_readReturn, Cond.instanceMethod yX6_readReturn, Cond.selects RX6 yX6_readReturn yX6_readReturn, Cond.code yX6_readReturn cX6_readReturn 1 none, Cond.fieldLink RX6 80 "FeastLedger$TextReader" "returnTimes" "I", Cond.fieldLink RX6 86 "FeastLedger$TextReader" "within" "I", Cond.methodLink RX6 72 yX6_readNumber, Cond.instanceMethod yX6_readNumber, Cond.selects RX6 yX6_readNumber yX6_readNumber, Cond.code yX6_readNumber cX6_readNumber 4 (some .int), Cond.methodLink RX6 93 Lib.Math.min.name, Cond.static Lib.Math.min.name, Cond.initialized "java/lang/Math", Cond.code Lib.Math.min.name Lib.Math.min.code 2 (some .int)]
def wsL_custom_r6 : List Cond := [Cond.methodLink RX6 76 yX6_readSign, Cond.instanceMethod yX6_readSign, Cond.selects RX6 yX6_readSign yX6_readSign, Cond.code yX6_readSign cX6_readSign 2 none, Cond.methodLink RX6 83 yX6_readWithin, Cond.instanceMethod yX6_readWithin, Cond.selects RX6 yX6_readWithin yX6_readWithin, Cond.code yX6_readWithin cX6_readWithin 2 none, Cond.methodLink RX6 69 yX6_readLoan, Cond.instanceMethod yX6_readLoan, Cond.selects RX6 yX6_readLoan yX6_readLoan, Cond.code yX6_readLoan cX6_readLoan 1 none, Cond.fieldLink RX6 89 "FeastLedger$TextReader" "loanTimes" "I", Cond.methodLink RX7 109 yX2_add, Cond.instanceMethod yX2_add, Cond.selects RX2 yX2_add yX2_add, Cond.initialized RX2, Cond.code yX2_add cX2_add 3 (some .int), Cond.fieldLink RX2 9 "FeastLedger$Customs" "fromYear" "[I", Cond.fieldLink RX2 33 "FeastLedger$Customs" "size" "I", Cond.fieldLink RX2 15 "FeastLedger$Customs" "returnTimes" "[I", Cond.fieldLink RX2 37 "FeastLedger$TextReader" "returnTimes" "I", Cond.fieldLink RX2 18 "FeastLedger$Customs" "returnBy" "[I", Cond.fieldLink RX2 41 "FeastLedger$TextReader" "returnBy" "I"]
def wsL_custom_r7 : List Cond := [Cond.fieldLink RX2 21 "FeastLedger$Customs" "within" "[I", Cond.fieldLink RX2 43 "FeastLedger$TextReader" "within" "I", Cond.fieldLink RX2 24 "FeastLedger$Customs" "loanTimes" "[I", Cond.fieldLink RX2 45 "FeastLedger$TextReader" "loanTimes" "I", Cond.fieldLink RX2 27 "FeastLedger$Customs" "loanBy" "[I", Cond.fieldLink RX2 47 "FeastLedger$TextReader" "loanBy" "I", Cond.fieldLink RX2 30 "FeastLedger$Customs" "witness" "[I", Cond.fieldLink RX2 49 "FeastLedger$TextReader" "witness" "I"]
def wsL_custom : List Cond := .codeWith yL_custom cL_custom 5 (some .int) [(0, 10, 13, 13), (0, 10, 17, 15)] :: ((wsL_custom_r1 ++ (wsL_custom_r2 ++ (wsL_custom_r3 ++ (wsL_custom_r4 ++ (wsL_custom_r5 ++ (wsL_custom_r6 ++ wsL_custom_r7)))))) ++ wsX70 ++ wsX50 ++ wsX20 ++ wsX60 ++ (vx_atS RX7 70 "java/lang/IllegalArgumentException" ["java/lang/RuntimeException", "java/lang/Exception"]).filter goodWord ++ (vx_atS RX7 80 "java/lang/IllegalStateException" ["java/lang/RuntimeException", "java/lang/Exception"]).filter goodWord)
def wsL_give_r1 : List Cond := [Cond.classLink RL 25 "java/lang/IndexOutOfBoundsException", Cond.classLink RL 13 "java/lang/IllegalArgumentException", Cond.classLink RL 15 "java/lang/IllegalStateException", Cond.methodLink RL 21 yX7_give, Cond.instanceMethod yX7_give, Cond.selects RX7 yX7_give yX7_give, Cond.initialized RX7, Cond.code yX7_give cX7_give 4 (some .int), Cond.fieldLink RX7 33 "FeastLedger" "chiefs" "LFeastLedger$Chiefs;", Cond.fieldLink RX7 119 "FeastLedger$Chiefs" "blankets" "[I", Cond.fieldLink RX7 40 "FeastLedger" "debts" "LFeastLedger$Debts;", Cond.methodLink RX7 115 yX7_checkHandingOver, Cond.instanceMethod yX7_checkHandingOver, Cond.selects RX7 yX7_checkHandingOver yX7_checkHandingOver, Cond.code yX7_checkHandingOver cX7_checkHandingOver 4 none, Cond.classLink RX7 66 "java/lang/IllegalArgumentException", Cond.initialized "java/lang/IllegalArgumentException", Cond.methodLink RX7 140 yX7_checkChief, Cond.instanceMethod yX7_checkChief, Cond.selects RX7 yX7_checkChief yX7_checkChief, Cond.code yX7_checkChief cX7_checkChief 2 none, Cond.classLink RX7 207 "java/lang/IndexOutOfBoundsException", Cond.initialized "java/lang/IndexOutOfBoundsException", Cond.fieldLink RX7 73 "FeastLedger$Chiefs" "size" "I"]
def wsL_give_r2 : List Cond := [Cond.methodLink RX7 145 yX7_checkLives, Cond.instanceMethod yX7_checkLives, Cond.selects RX7 yX7_checkLives yX7_checkLives, Cond.code yX7_checkLives cX7_checkLives 2 none, Cond.classLink RX7 76 "java/lang/IllegalStateException", Cond.initialized "java/lang/IllegalStateException", Cond.fieldLink RX7 191 "FeastLedger$Chiefs" "lives" "[Z", Cond.methodLink RX7 123 yX7_debtsMadeBy, Cond.instanceMethod yX7_debtsMadeBy, Cond.selects RX7 yX7_debtsMadeBy yX7_debtsMadeBy, Cond.code yX7_debtsMadeBy cX7_debtsMadeBy 6 (some .int), Cond.methodLink RX7 275 Lib.MathLoose.min_long.x, Cond.static Lib.MathLoose.min_long.x, Cond.initialized "java/lang/Math", Cond.code Lib.MathLoose.min_long.x Lib.MathLoose.min_long.code 4 (some .long), Cond.fieldLink RX7 26 "FeastLedger" "customs" "LFeastLedger$Customs;", Cond.fieldLink RX7 58 "FeastLedger" "now" "I", Cond.methodLink RX7 271 yX3_owed, Cond.instanceMethod yX3_owed, Cond.selects RX3 yX3_owed yX3_owed, Cond.initialized RX3, Cond.code yX3_owed cX3_owed 6 (some .long), Cond.fieldLink RX3 24 "FeastLedger$Debts" "size" "I", Cond.fieldLink RX3 18 "FeastLedger$Debts" "left" "[I"]
def wsL_give_r3 : List Cond := [Cond.methodLink RX3 32 yX3_isOpenBetween, Cond.instanceMethod yX3_isOpenBetween, Cond.selects RX3 yX3_isOpenBetween yX3_isOpenBetween, Cond.code yX3_isOpenBetween cX3_isOpenBetween 4 (some .boolean), Cond.fieldLink RX3 9 "FeastLedger$Debts" "debtor" "[I", Cond.fieldLink RX3 15 "FeastLedger$Debts" "creditor" "[I", Cond.methodLink RX7 112 yX2_inForce, Cond.instanceMethod yX2_inForce, Cond.selects RX2 yX2_inForce yX2_inForce, Cond.initialized RX2, Cond.code yX2_inForce cX2_inForce 4 (some .int), Cond.fieldLink RX2 33 "FeastLedger$Customs" "size" "I", Cond.fieldLink RX2 9 "FeastLedger$Customs" "fromYear" "[I", Cond.methodLink RX7 281 yX2_askedFor, Cond.instanceMethod yX2_askedFor, Cond.selects RX2 yX2_askedFor yX2_askedFor, Cond.code yX2_askedFor cX2_askedFor 7 (some .int), Cond.fieldLink RX2 18 "FeastLedger$Customs" "returnBy" "[I", Cond.fieldLink RX2 15 "FeastLedger$Customs" "returnTimes" "[I", Cond.constantLong RX2 51 (1000000000), Cond.methodLink RX2 53 Lib.MathLoose.min_long.x, Cond.methodLink RX7 127 yX3_room, Cond.instanceMethod yX3_room, Cond.selects RX3 yX3_room yX3_room]
def wsL_give_r4 : List Cond := [Cond.code yX3_room cX3_room 1 (some .int), Cond.methodLink RX7 131 yX0_moveBlankets, Cond.instanceMethod yX0_moveBlankets, Cond.selects RX0 yX0_moveBlankets yX0_moveBlankets, Cond.initialized RX0, Cond.code yX0_moveBlankets cX0_moveBlankets 4 none, Cond.fieldLink RX0 9 "FeastLedger$Chiefs" "blankets" "[I", Cond.methodLink RX7 134 yX7_recordGiven, Cond.instanceMethod yX7_recordGiven, Cond.selects RX7 yX7_recordGiven yX7_recordGiven, Cond.code yX7_recordGiven cX7_recordGiven 7 (some .int), Cond.fieldLink RX7 238 "FeastLedger$Chiefs" "fame" "[J", Cond.methodLink RX7 285 yX3_answer, Cond.instanceMethod yX3_answer, Cond.selects RX3 yX3_answer yX3_answer, Cond.code yX3_answer cX3_answer 8 (some .int), Cond.methodLink RX3 40 Lib.Math.min.name, Cond.static Lib.Math.min.name, Cond.code Lib.Math.min.name Lib.Math.min.code 2 (some .int), Cond.methodLink RX3 36 yX3_firstToAnswer, Cond.instanceMethod yX3_firstToAnswer, Cond.selects RX3 yX3_firstToAnswer yX3_firstToAnswer, Cond.code yX3_firstToAnswer cX3_firstToAnswer 5 (some .int), Cond.methodLink RX3 45 yX3_turn]
def wsL_give_r5 : List Cond := [Cond.instanceMethod yX3_turn, Cond.selects RX3 yX3_turn yX3_turn, Cond.code yX3_turn cX3_turn 2 (some .int), Cond.constant RX3 49 (1000000), Cond.fieldLink RX3 21 "FeastLedger$Debts" "due" "[I", Cond.methodLink RX3 28 yX3_isLoan, Cond.instanceMethod yX3_isLoan, Cond.selects RX3 yX3_isLoan yX3_isLoan, Cond.code yX3_isLoan cX3_isLoan 2 (some .boolean), Cond.methodLink RX7 288 yX2_yearsToAnswer, Cond.instanceMethod yX2_yearsToAnswer, Cond.selects RX2 yX2_yearsToAnswer yX2_yearsToAnswer, Cond.code yX2_yearsToAnswer cX2_yearsToAnswer 2 (some .int), Cond.fieldLink RX2 21 "FeastLedger$Customs" "within" "[I", Cond.methodLink RX7 137 yX3_add, Cond.instanceMethod yX3_add, Cond.selects RX3 yX3_add yX3_add, Cond.code yX3_add cX3_add 5 (some .int)]
def wsL_give : List Cond := .codeWith yL_give cL_give 6 (some .int) [(0, 12, 15, 25), (0, 12, 19, 13), (0, 12, 23, 15)] :: ((wsL_give_r1 ++ (wsL_give_r2 ++ (wsL_give_r3 ++ (wsL_give_r4 ++ wsL_give_r5)))) ++ wsX70 ++ wsX00 ++ wsX30 ++ wsX20 ++ (vx_atS RX7 70 "java/lang/IllegalArgumentException" ["java/lang/RuntimeException", "java/lang/Exception"]).filter goodWord ++ (vx_atS RX7 211 "java/lang/IndexOutOfBoundsException" ["java/lang/RuntimeException", "java/lang/Exception"]).filter goodWord ++ (vx_atS RX7 80 "java/lang/IllegalStateException" ["java/lang/RuntimeException", "java/lang/Exception"]).filter goodWord)
def wsL_lend_r1 : List Cond := [Cond.classLink RL 25 "java/lang/IndexOutOfBoundsException", Cond.classLink RL 13 "java/lang/IllegalArgumentException", Cond.classLink RL 15 "java/lang/IllegalStateException", Cond.methodLink RL 27 yX7_lend, Cond.instanceMethod yX7_lend, Cond.selects RX7 yX7_lend yX7_lend, Cond.initialized RX7, Cond.code yX7_lend cX7_lend 4 (some .int), Cond.fieldLink RX7 33 "FeastLedger" "chiefs" "LFeastLedger$Chiefs;", Cond.fieldLink RX7 119 "FeastLedger$Chiefs" "blankets" "[I", Cond.fieldLink RX7 40 "FeastLedger" "debts" "LFeastLedger$Debts;", Cond.methodLink RX7 115 yX7_checkHandingOver, Cond.instanceMethod yX7_checkHandingOver, Cond.selects RX7 yX7_checkHandingOver yX7_checkHandingOver, Cond.code yX7_checkHandingOver cX7_checkHandingOver 4 none, Cond.classLink RX7 66 "java/lang/IllegalArgumentException", Cond.initialized "java/lang/IllegalArgumentException", Cond.methodLink RX7 140 yX7_checkChief, Cond.instanceMethod yX7_checkChief, Cond.selects RX7 yX7_checkChief yX7_checkChief, Cond.code yX7_checkChief cX7_checkChief 2 none, Cond.classLink RX7 207 "java/lang/IndexOutOfBoundsException", Cond.initialized "java/lang/IndexOutOfBoundsException", Cond.fieldLink RX7 73 "FeastLedger$Chiefs" "size" "I"]
def wsL_lend_r2 : List Cond := [Cond.methodLink RX7 145 yX7_checkLives, Cond.instanceMethod yX7_checkLives, Cond.selects RX7 yX7_checkLives yX7_checkLives, Cond.code yX7_checkLives cX7_checkLives 2 none, Cond.classLink RX7 76 "java/lang/IllegalStateException", Cond.initialized "java/lang/IllegalStateException", Cond.fieldLink RX7 191 "FeastLedger$Chiefs" "lives" "[Z", Cond.methodLink RX7 127 yX3_room, Cond.instanceMethod yX3_room, Cond.selects RX3 yX3_room yX3_room, Cond.initialized RX3, Cond.code yX3_room cX3_room 1 (some .int), Cond.fieldLink RX3 24 "FeastLedger$Debts" "size" "I", Cond.methodLink RX7 131 yX0_moveBlankets, Cond.instanceMethod yX0_moveBlankets, Cond.selects RX0 yX0_moveBlankets yX0_moveBlankets, Cond.initialized RX0, Cond.code yX0_moveBlankets cX0_moveBlankets 4 none, Cond.fieldLink RX0 9 "FeastLedger$Chiefs" "blankets" "[I", Cond.methodLink RX7 137 yX3_add, Cond.instanceMethod yX3_add, Cond.selects RX3 yX3_add yX3_add, Cond.code yX3_add cX3_add 5 (some .int), Cond.fieldLink RX3 9 "FeastLedger$Debts" "debtor" "[I"]
def wsL_lend_r3 : List Cond := [Cond.fieldLink RX3 15 "FeastLedger$Debts" "creditor" "[I", Cond.fieldLink RX3 18 "FeastLedger$Debts" "left" "[I", Cond.fieldLink RX3 21 "FeastLedger$Debts" "due" "[I"]
def wsL_lend : List Cond := .codeWith yL_lend cL_lend 6 (some .int) [(0, 12, 15, 25), (0, 12, 19, 13), (0, 12, 23, 15)] :: ((wsL_lend_r1 ++ (wsL_lend_r2 ++ wsL_lend_r3)) ++ wsX70 ++ wsX00 ++ wsX30 ++ (vx_atS RX7 70 "java/lang/IllegalArgumentException" ["java/lang/RuntimeException", "java/lang/Exception"]).filter goodWord ++ (vx_atS RX7 211 "java/lang/IndexOutOfBoundsException" ["java/lang/RuntimeException", "java/lang/Exception"]).filter goodWord ++ (vx_atS RX7 80 "java/lang/IllegalStateException" ["java/lang/RuntimeException", "java/lang/Exception"]).filter goodWord)
def wsL_copper_r1 : List Cond := [Cond.classLink RL 25 "java/lang/IndexOutOfBoundsException", Cond.classLink RL 13 "java/lang/IllegalArgumentException", Cond.classLink RL 15 "java/lang/IllegalStateException", Cond.methodLink RL 30 yX7_copper, Cond.instanceMethod yX7_copper, Cond.selects RX7 yX7_copper yX7_copper, Cond.initialized RX7, Cond.code yX7_copper cX7_copper 3 (some .int), Cond.classLink RX7 66 "java/lang/IllegalArgumentException", Cond.initialized "java/lang/IllegalArgumentException", Cond.classLink RX7 76 "java/lang/IllegalStateException", Cond.initialized "java/lang/IllegalStateException", Cond.constant RX7 65 (1000000), Cond.fieldLink RX7 47 "FeastLedger" "coppers" "LFeastLedger$Coppers;", Cond.fieldLink RX7 148 "FeastLedger$Coppers" "size" "I", Cond.methodLink RX7 140 yX7_checkChief, Cond.instanceMethod yX7_checkChief, Cond.selects RX7 yX7_checkChief yX7_checkChief, Cond.code yX7_checkChief cX7_checkChief 2 none, Cond.classLink RX7 207 "java/lang/IndexOutOfBoundsException", Cond.initialized "java/lang/IndexOutOfBoundsException", Cond.fieldLink RX7 33 "FeastLedger" "chiefs" "LFeastLedger$Chiefs;", Cond.fieldLink RX7 73 "FeastLedger$Chiefs" "size" "I", Cond.methodLink RX7 145 yX7_checkLives]
def wsL_copper_r2 : List Cond := [Cond.instanceMethod yX7_checkLives, Cond.selects RX7 yX7_checkLives yX7_checkLives, Cond.code yX7_checkLives cX7_checkLives 2 none, Cond.fieldLink RX7 191 "FeastLedger$Chiefs" "lives" "[Z", Cond.methodLink RX7 151 yX1_add, Cond.instanceMethod yX1_add, Cond.selects RX1 yX1_add yX1_add, Cond.initialized RX1, Cond.code yX1_add cX1_add 3 (some .int), Cond.fieldLink RX1 9 "FeastLedger$Coppers" "owner" "[I", Cond.fieldLink RX1 21 "FeastLedger$Coppers" "size" "I", Cond.fieldLink RX1 15 "FeastLedger$Coppers" "firstWorth" "[I", Cond.fieldLink RX1 18 "FeastLedger$Coppers" "worth" "[I"]
def wsL_copper : List Cond := .codeWith yL_copper cL_copper 5 (some .int) [(0, 10, 13, 25), (0, 10, 17, 13), (0, 10, 21, 15)] :: ((wsL_copper_r1 ++ wsL_copper_r2) ++ wsX70 ++ wsX10 ++ wsX00 ++ (vx_atS RX7 70 "java/lang/IllegalArgumentException" ["java/lang/RuntimeException", "java/lang/Exception"]).filter goodWord ++ (vx_atS RX7 80 "java/lang/IllegalStateException" ["java/lang/RuntimeException", "java/lang/Exception"]).filter goodWord ++ (vx_atS RX7 211 "java/lang/IndexOutOfBoundsException" ["java/lang/RuntimeException", "java/lang/Exception"]).filter goodWord)
def wsL_pass_r1 : List Cond := [Cond.classLink RL 25 "java/lang/IndexOutOfBoundsException", Cond.classLink RL 13 "java/lang/IllegalArgumentException", Cond.classLink RL 15 "java/lang/IllegalStateException", Cond.methodLink RL 33 yX7_pass, Cond.instanceMethod yX7_pass, Cond.selects RX7 yX7_pass yX7_pass, Cond.initialized RX7, Cond.code yX7_pass cX7_pass 5 (some .int), Cond.classLink RX7 66 "java/lang/IllegalArgumentException", Cond.initialized "java/lang/IllegalArgumentException", Cond.fieldLink RX7 47 "FeastLedger" "coppers" "LFeastLedger$Coppers;", Cond.fieldLink RX7 157 "FeastLedger$Coppers" "owner" "[I", Cond.fieldLink RX7 162 "FeastLedger$Coppers" "worth" "[I", Cond.fieldLink RX7 40 "FeastLedger" "debts" "LFeastLedger$Debts;", Cond.methodLink RX7 154 yX7_checkCopper, Cond.instanceMethod yX7_checkCopper, Cond.selects RX7 yX7_checkCopper yX7_checkCopper, Cond.code yX7_checkCopper cX7_checkCopper 2 none, Cond.classLink RX7 207 "java/lang/IndexOutOfBoundsException", Cond.initialized "java/lang/IndexOutOfBoundsException", Cond.fieldLink RX7 148 "FeastLedger$Coppers" "size" "I", Cond.methodLink RX7 140 yX7_checkChief, Cond.instanceMethod yX7_checkChief, Cond.selects RX7 yX7_checkChief yX7_checkChief]
def wsL_pass_r2 : List Cond := [Cond.code yX7_checkChief cX7_checkChief 2 none, Cond.fieldLink RX7 33 "FeastLedger" "chiefs" "LFeastLedger$Chiefs;", Cond.fieldLink RX7 73 "FeastLedger$Chiefs" "size" "I", Cond.methodLink RX7 145 yX7_checkLives, Cond.instanceMethod yX7_checkLives, Cond.selects RX7 yX7_checkLives yX7_checkLives, Cond.code yX7_checkLives cX7_checkLives 2 none, Cond.classLink RX7 76 "java/lang/IllegalStateException", Cond.initialized "java/lang/IllegalStateException", Cond.fieldLink RX7 191 "FeastLedger$Chiefs" "lives" "[Z", Cond.methodLink RX7 123 yX7_debtsMadeBy, Cond.instanceMethod yX7_debtsMadeBy, Cond.selects RX7 yX7_debtsMadeBy yX7_debtsMadeBy, Cond.code yX7_debtsMadeBy cX7_debtsMadeBy 6 (some .int), Cond.methodLink RX7 275 Lib.MathLoose.min_long.x, Cond.static Lib.MathLoose.min_long.x, Cond.initialized "java/lang/Math", Cond.code Lib.MathLoose.min_long.x Lib.MathLoose.min_long.code 4 (some .long), Cond.fieldLink RX7 26 "FeastLedger" "customs" "LFeastLedger$Customs;", Cond.fieldLink RX7 58 "FeastLedger" "now" "I", Cond.methodLink RX7 271 yX3_owed, Cond.instanceMethod yX3_owed, Cond.selects RX3 yX3_owed yX3_owed, Cond.initialized RX3]
def wsL_pass_r3 : List Cond := [Cond.code yX3_owed cX3_owed 6 (some .long), Cond.fieldLink RX3 24 "FeastLedger$Debts" "size" "I", Cond.fieldLink RX3 18 "FeastLedger$Debts" "left" "[I", Cond.methodLink RX3 32 yX3_isOpenBetween, Cond.instanceMethod yX3_isOpenBetween, Cond.selects RX3 yX3_isOpenBetween yX3_isOpenBetween, Cond.code yX3_isOpenBetween cX3_isOpenBetween 4 (some .boolean), Cond.fieldLink RX3 9 "FeastLedger$Debts" "debtor" "[I", Cond.fieldLink RX3 15 "FeastLedger$Debts" "creditor" "[I", Cond.methodLink RX7 112 yX2_inForce, Cond.instanceMethod yX2_inForce, Cond.selects RX2 yX2_inForce yX2_inForce, Cond.initialized RX2, Cond.code yX2_inForce cX2_inForce 4 (some .int), Cond.fieldLink RX2 33 "FeastLedger$Customs" "size" "I", Cond.fieldLink RX2 9 "FeastLedger$Customs" "fromYear" "[I", Cond.methodLink RX7 281 yX2_askedFor, Cond.instanceMethod yX2_askedFor, Cond.selects RX2 yX2_askedFor yX2_askedFor, Cond.code yX2_askedFor cX2_askedFor 7 (some .int), Cond.fieldLink RX2 18 "FeastLedger$Customs" "returnBy" "[I", Cond.fieldLink RX2 15 "FeastLedger$Customs" "returnTimes" "[I", Cond.constantLong RX2 51 (1000000000), Cond.methodLink RX2 53 Lib.MathLoose.min_long.x]
def wsL_pass_r4 : List Cond := [Cond.methodLink RX7 127 yX3_room, Cond.instanceMethod yX3_room, Cond.selects RX3 yX3_room yX3_room, Cond.code yX3_room cX3_room 1 (some .int), Cond.methodLink RX7 134 yX7_recordGiven, Cond.instanceMethod yX7_recordGiven, Cond.selects RX7 yX7_recordGiven yX7_recordGiven, Cond.code yX7_recordGiven cX7_recordGiven 7 (some .int), Cond.fieldLink RX7 238 "FeastLedger$Chiefs" "fame" "[J", Cond.methodLink RX7 285 yX3_answer, Cond.instanceMethod yX3_answer, Cond.selects RX3 yX3_answer yX3_answer, Cond.code yX3_answer cX3_answer 8 (some .int), Cond.methodLink RX3 40 Lib.Math.min.name, Cond.static Lib.Math.min.name, Cond.code Lib.Math.min.name Lib.Math.min.code 2 (some .int), Cond.methodLink RX3 36 yX3_firstToAnswer, Cond.instanceMethod yX3_firstToAnswer, Cond.selects RX3 yX3_firstToAnswer yX3_firstToAnswer, Cond.code yX3_firstToAnswer cX3_firstToAnswer 5 (some .int), Cond.methodLink RX3 45 yX3_turn, Cond.instanceMethod yX3_turn, Cond.selects RX3 yX3_turn yX3_turn, Cond.code yX3_turn cX3_turn 2 (some .int)]
def wsL_pass_r5 : List Cond := [Cond.constant RX3 49 (1000000), Cond.fieldLink RX3 21 "FeastLedger$Debts" "due" "[I", Cond.methodLink RX3 28 yX3_isLoan, Cond.instanceMethod yX3_isLoan, Cond.selects RX3 yX3_isLoan yX3_isLoan, Cond.code yX3_isLoan cX3_isLoan 2 (some .boolean), Cond.methodLink RX7 288 yX2_yearsToAnswer, Cond.instanceMethod yX2_yearsToAnswer, Cond.selects RX2 yX2_yearsToAnswer yX2_yearsToAnswer, Cond.code yX2_yearsToAnswer cX2_yearsToAnswer 2 (some .int), Cond.fieldLink RX2 21 "FeastLedger$Customs" "within" "[I", Cond.methodLink RX7 137 yX3_add, Cond.instanceMethod yX3_add, Cond.selects RX3 yX3_add yX3_add, Cond.code yX3_add cX3_add 5 (some .int)]
def wsL_pass : List Cond := .codeWith yL_pass cL_pass 5 (some .int) [(0, 10, 13, 25), (0, 10, 17, 13), (0, 10, 21, 15)] :: ((wsL_pass_r1 ++ (wsL_pass_r2 ++ (wsL_pass_r3 ++ (wsL_pass_r4 ++ wsL_pass_r5)))) ++ wsX70 ++ wsX10 ++ wsX00 ++ wsX30 ++ wsX20 ++ (vx_atS RX7 70 "java/lang/IllegalArgumentException" ["java/lang/RuntimeException", "java/lang/Exception"]).filter goodWord ++ (vx_atS RX7 211 "java/lang/IndexOutOfBoundsException" ["java/lang/RuntimeException", "java/lang/Exception"]).filter goodWord ++ (vx_atS RX7 80 "java/lang/IllegalStateException" ["java/lang/RuntimeException", "java/lang/Exception"]).filter goodWord)
def wsL_breaks_r1 : List Cond := [Cond.classLink RL 25 "java/lang/IndexOutOfBoundsException", Cond.methodLink RL 36 yX7_breaks, Cond.instanceMethod yX7_breaks, Cond.selects RX7 yX7_breaks yX7_breaks, Cond.initialized RX7, Cond.code yX7_breaks cX7_breaks 2 (some .int), Cond.fieldLink RX7 47 "FeastLedger" "coppers" "LFeastLedger$Coppers;", Cond.fieldLink RX7 162 "FeastLedger$Coppers" "worth" "[I", Cond.methodLink RX7 154 yX7_checkCopper, Cond.instanceMethod yX7_checkCopper, Cond.selects RX7 yX7_checkCopper yX7_checkCopper, Cond.code yX7_checkCopper cX7_checkCopper 2 none, Cond.classLink RX7 207 "java/lang/IndexOutOfBoundsException", Cond.initialized "java/lang/IndexOutOfBoundsException", Cond.fieldLink RX7 148 "FeastLedger$Coppers" "size" "I", Cond.methodLink RX7 165 yX1_breakOff, Cond.instanceMethod yX1_breakOff, Cond.selects RX1 yX1_breakOff yX1_breakOff, Cond.initialized RX1, Cond.code yX1_breakOff cX1_breakOff 3 (some .int), Cond.fieldLink RX1 15 "FeastLedger$Coppers" "firstWorth" "[I", Cond.methodLink RX1 25 Lib.Math.max.name, Cond.static Lib.Math.max.name, Cond.initialized "java/lang/Math"]
def wsL_breaks_r2 : List Cond := [Cond.code Lib.Math.max.name Lib.Math.max.code 2 (some .int), Cond.fieldLink RX1 18 "FeastLedger$Coppers" "worth" "[I"]
def wsL_breaks : List Cond := .codeWith yL_breaks cL_breaks 4 (some .int) [(0, 9, 12, 25)] :: ((wsL_breaks_r1 ++ wsL_breaks_r2) ++ wsX70 ++ wsX10 ++ (vx_atS RX7 211 "java/lang/IndexOutOfBoundsException" ["java/lang/RuntimeException", "java/lang/Exception"]).filter goodWord)
def wsL_copperTold : List Cond := .codeWith yL_copperTold cL_copperTold 5 (some .int) [(0, 10, 13, 25), (0, 10, 17, 13)] :: ([.classLink RL 25 "java/lang/IndexOutOfBoundsException", .classLink RL 13 "java/lang/IllegalArgumentException", .methodLink RL 39 yX7_copperTold, .instanceMethod yX7_copperTold, .selects RX7 yX7_copperTold yX7_copperTold, .initialized RX7, .code yX7_copperTold cX7_copperTold 3 (some .int), .classLink RX7 66 "java/lang/IllegalArgumentException", .initialized "java/lang/IllegalArgumentException", .fieldLink RX7 47 "FeastLedger" "coppers" "LFeastLedger$Coppers;", .fieldLink RX7 157 "FeastLedger$Coppers" "owner" "[I", .fieldLink RX7 162 "FeastLedger$Coppers" "worth" "[I", .methodLink RX7 154 yX7_checkCopper, .instanceMethod yX7_checkCopper, .selects RX7 yX7_checkCopper yX7_checkCopper, .code yX7_checkCopper cX7_checkCopper 2 none, .classLink RX7 207 "java/lang/IndexOutOfBoundsException", .initialized "java/lang/IndexOutOfBoundsException", .fieldLink RX7 148 "FeastLedger$Coppers" "size" "I"] ++ wsX70 ++ wsX10 ++ (vx_atS RX7 70 "java/lang/IllegalArgumentException" ["java/lang/RuntimeException", "java/lang/Exception"]).filter goodWord ++ (vx_atS RX7 211 "java/lang/IndexOutOfBoundsException" ["java/lang/RuntimeException", "java/lang/Exception"]).filter goodWord)
def wsL_feast_r1 : List Cond := [Cond.classLink RL 25 "java/lang/IndexOutOfBoundsException", Cond.classLink RL 13 "java/lang/IllegalArgumentException", Cond.classLink RL 15 "java/lang/IllegalStateException", Cond.methodLink RL 42 yX7_feast, Cond.instanceMethod yX7_feast, Cond.selects RX7 yX7_feast yX7_feast, Cond.initialized RX7, Cond.code yX7_feast cX7_feast 8 (some .int), Cond.fieldLink RX7 26 "FeastLedger" "customs" "LFeastLedger$Customs;", Cond.fieldLink RX7 58 "FeastLedger" "now" "I", Cond.fieldLink RX7 33 "FeastLedger" "chiefs" "LFeastLedger$Chiefs;", Cond.fieldLink RX7 119 "FeastLedger$Chiefs" "blankets" "[I", Cond.fieldLink RX7 40 "FeastLedger" "debts" "LFeastLedger$Debts;", Cond.fieldLink RX7 73 "FeastLedger$Chiefs" "size" "I", Cond.methodLink RX7 170 yX7_checkFeast, Cond.instanceMethod yX7_checkFeast, Cond.selects RX7 yX7_checkFeast yX7_checkFeast, Cond.code yX7_checkFeast cX7_checkFeast 7 none, Cond.classLink RX7 66 "java/lang/IllegalArgumentException", Cond.initialized "java/lang/IllegalArgumentException", Cond.constant RX7 268 (100000), Cond.methodLink RX7 140 yX7_checkChief, Cond.instanceMethod yX7_checkChief, Cond.selects RX7 yX7_checkChief yX7_checkChief]
def wsL_feast_r2 : List Cond := [Cond.code yX7_checkChief cX7_checkChief 2 none, Cond.classLink RX7 207 "java/lang/IndexOutOfBoundsException", Cond.initialized "java/lang/IndexOutOfBoundsException", Cond.methodLink RX7 185 yX7_isIn, Cond.static yX7_isIn, Cond.code yX7_isIn cX7_isIn 2 (some .boolean), Cond.methodLink RX7 145 yX7_checkLives, Cond.instanceMethod yX7_checkLives, Cond.selects RX7 yX7_checkLives yX7_checkLives, Cond.code yX7_checkLives cX7_checkLives 2 none, Cond.classLink RX7 76 "java/lang/IllegalStateException", Cond.initialized "java/lang/IllegalStateException", Cond.fieldLink RX7 191 "FeastLedger$Chiefs" "lives" "[Z", Cond.methodLink RX7 112 yX2_inForce, Cond.instanceMethod yX2_inForce, Cond.selects RX2 yX2_inForce yX2_inForce, Cond.initialized RX2, Cond.code yX2_inForce cX2_inForce 4 (some .int), Cond.fieldLink RX2 33 "FeastLedger$Customs" "size" "I", Cond.fieldLink RX2 9 "FeastLedger$Customs" "fromYear" "[I", Cond.methodLink RX7 174 yX2_witnessShare, Cond.instanceMethod yX2_witnessShare, Cond.selects RX2 yX2_witnessShare yX2_witnessShare, Cond.code yX2_witnessShare cX2_witnessShare 2 (some .int)]
def wsL_feast_r3 : List Cond := [Cond.fieldLink RX2 30 "FeastLedger$Customs" "witness" "[I", Cond.methodLink RX7 177 yJ6_bitCount_0f7a4, Cond.static yJ6_bitCount_0f7a4, Cond.initialized RJ6, Cond.code yJ6_bitCount_0f7a4 cJ6_bitCount_0f7a4 1 (some .int), Cond.constant RJ6 265 (1431655765), Cond.constant RJ6 266 (858993459), Cond.constant RJ6 267 (252645135), Cond.methodLink RX7 182 yX7_debtsMadeByFeast, Cond.instanceMethod yX7_debtsMadeByFeast, Cond.selects RX7 yX7_debtsMadeByFeast yX7_debtsMadeByFeast, Cond.code yX7_debtsMadeByFeast cX7_debtsMadeByFeast 6 (some .int), Cond.methodLink RX7 123 yX7_debtsMadeBy, Cond.instanceMethod yX7_debtsMadeBy, Cond.selects RX7 yX7_debtsMadeBy yX7_debtsMadeBy, Cond.code yX7_debtsMadeBy cX7_debtsMadeBy 6 (some .int), Cond.methodLink RX7 275 Lib.MathLoose.min_long.x, Cond.static Lib.MathLoose.min_long.x, Cond.initialized "java/lang/Math", Cond.code Lib.MathLoose.min_long.x Lib.MathLoose.min_long.code 4 (some .long), Cond.methodLink RX7 271 yX3_owed, Cond.instanceMethod yX3_owed, Cond.selects RX3 yX3_owed yX3_owed, Cond.initialized RX3]
def wsL_feast_r4 : List Cond := [Cond.code yX3_owed cX3_owed 6 (some .long), Cond.fieldLink RX3 24 "FeastLedger$Debts" "size" "I", Cond.fieldLink RX3 18 "FeastLedger$Debts" "left" "[I", Cond.methodLink RX3 32 yX3_isOpenBetween, Cond.instanceMethod yX3_isOpenBetween, Cond.selects RX3 yX3_isOpenBetween yX3_isOpenBetween, Cond.code yX3_isOpenBetween cX3_isOpenBetween 4 (some .boolean), Cond.fieldLink RX3 9 "FeastLedger$Debts" "debtor" "[I", Cond.fieldLink RX3 15 "FeastLedger$Debts" "creditor" "[I", Cond.methodLink RX7 281 yX2_askedFor, Cond.instanceMethod yX2_askedFor, Cond.selects RX2 yX2_askedFor yX2_askedFor, Cond.code yX2_askedFor cX2_askedFor 7 (some .int), Cond.fieldLink RX2 18 "FeastLedger$Customs" "returnBy" "[I", Cond.fieldLink RX2 15 "FeastLedger$Customs" "returnTimes" "[I", Cond.constantLong RX2 51 (1000000000), Cond.methodLink RX2 53 Lib.MathLoose.min_long.x, Cond.methodLink RX7 127 yX3_room, Cond.instanceMethod yX3_room, Cond.selects RX3 yX3_room yX3_room, Cond.code yX3_room cX3_room 1 (some .int), Cond.methodLink RX7 131 yX0_moveBlankets, Cond.instanceMethod yX0_moveBlankets, Cond.selects RX0 yX0_moveBlankets yX0_moveBlankets]
def wsL_feast_r5 : List Cond := [Cond.initialized RX0, Cond.code yX0_moveBlankets cX0_moveBlankets 4 none, Cond.fieldLink RX0 9 "FeastLedger$Chiefs" "blankets" "[I", Cond.methodLink RX7 134 yX7_recordGiven, Cond.instanceMethod yX7_recordGiven, Cond.selects RX7 yX7_recordGiven yX7_recordGiven, Cond.code yX7_recordGiven cX7_recordGiven 7 (some .int), Cond.fieldLink RX7 238 "FeastLedger$Chiefs" "fame" "[J", Cond.methodLink RX7 285 yX3_answer, Cond.instanceMethod yX3_answer, Cond.selects RX3 yX3_answer yX3_answer, Cond.code yX3_answer cX3_answer 8 (some .int), Cond.methodLink RX3 40 Lib.Math.min.name, Cond.static Lib.Math.min.name, Cond.code Lib.Math.min.name Lib.Math.min.code 2 (some .int), Cond.methodLink RX3 36 yX3_firstToAnswer, Cond.instanceMethod yX3_firstToAnswer, Cond.selects RX3 yX3_firstToAnswer yX3_firstToAnswer, Cond.code yX3_firstToAnswer cX3_firstToAnswer 5 (some .int), Cond.methodLink RX3 45 yX3_turn, Cond.instanceMethod yX3_turn, Cond.selects RX3 yX3_turn yX3_turn, Cond.code yX3_turn cX3_turn 2 (some .int), Cond.constant RX3 49 (1000000)]
def wsL_feast_r6 : List Cond := [Cond.fieldLink RX3 21 "FeastLedger$Debts" "due" "[I", Cond.methodLink RX3 28 yX3_isLoan, Cond.instanceMethod yX3_isLoan, Cond.selects RX3 yX3_isLoan yX3_isLoan, Cond.code yX3_isLoan cX3_isLoan 2 (some .boolean), Cond.methodLink RX7 288 yX2_yearsToAnswer, Cond.instanceMethod yX2_yearsToAnswer, Cond.selects RX2 yX2_yearsToAnswer yX2_yearsToAnswer, Cond.code yX2_yearsToAnswer cX2_yearsToAnswer 2 (some .int), Cond.fieldLink RX2 21 "FeastLedger$Customs" "within" "[I", Cond.methodLink RX7 137 yX3_add, Cond.instanceMethod yX3_add, Cond.selects RX3 yX3_add yX3_add, Cond.code yX3_add cX3_add 5 (some .int)]
def wsL_feast : List Cond := .codeWith yL_feast cL_feast 7 (some .int) [(0, 14, 17, 25), (0, 14, 21, 13), (0, 14, 25, 15)] :: ((wsL_feast_r1 ++ (wsL_feast_r2 ++ (wsL_feast_r3 ++ (wsL_feast_r4 ++ (wsL_feast_r5 ++ wsL_feast_r6))))) ++ wsX70 ++ wsX00 ++ wsX20 ++ wsX30 ++ (vx_atS RX7 70 "java/lang/IllegalArgumentException" ["java/lang/RuntimeException", "java/lang/Exception"]).filter goodWord ++ (vx_atS RX7 211 "java/lang/IndexOutOfBoundsException" ["java/lang/RuntimeException", "java/lang/Exception"]).filter goodWord ++ (vx_atS RX7 80 "java/lang/IllegalStateException" ["java/lang/RuntimeException", "java/lang/Exception"]).filter goodWord)
def wsL_died_r1 : List Cond := [Cond.classLink RL 25 "java/lang/IndexOutOfBoundsException", Cond.classLink RL 13 "java/lang/IllegalArgumentException", Cond.classLink RL 15 "java/lang/IllegalStateException", Cond.methodLink RL 46 yX7_died, Cond.instanceMethod yX7_died, Cond.selects RX7 yX7_died yX7_died, Cond.initialized RX7, Cond.code yX7_died cX7_died 3 (some .int), Cond.classLink RX7 66 "java/lang/IllegalArgumentException", Cond.initialized "java/lang/IllegalArgumentException", Cond.fieldLink RX7 33 "FeastLedger" "chiefs" "LFeastLedger$Chiefs;", Cond.fieldLink RX7 119 "FeastLedger$Chiefs" "blankets" "[I", Cond.fieldLink RX7 191 "FeastLedger$Chiefs" "lives" "[Z", Cond.fieldLink RX7 47 "FeastLedger" "coppers" "LFeastLedger$Coppers;", Cond.fieldLink RX7 40 "FeastLedger" "debts" "LFeastLedger$Debts;", Cond.methodLink RX7 140 yX7_checkChief, Cond.instanceMethod yX7_checkChief, Cond.selects RX7 yX7_checkChief yX7_checkChief, Cond.code yX7_checkChief cX7_checkChief 2 none, Cond.classLink RX7 207 "java/lang/IndexOutOfBoundsException", Cond.initialized "java/lang/IndexOutOfBoundsException", Cond.fieldLink RX7 73 "FeastLedger$Chiefs" "size" "I", Cond.methodLink RX7 145 yX7_checkLives, Cond.instanceMethod yX7_checkLives]
def wsL_died_r2 : List Cond := [Cond.selects RX7 yX7_checkLives yX7_checkLives, Cond.code yX7_checkLives cX7_checkLives 2 none, Cond.classLink RX7 76 "java/lang/IllegalStateException", Cond.initialized "java/lang/IllegalStateException", Cond.methodLink RX7 131 yX0_moveBlankets, Cond.instanceMethod yX0_moveBlankets, Cond.selects RX0 yX0_moveBlankets yX0_moveBlankets, Cond.initialized RX0, Cond.code yX0_moveBlankets cX0_moveBlankets 4 none, Cond.fieldLink RX0 9 "FeastLedger$Chiefs" "blankets" "[I", Cond.methodLink RX7 195 yX1_inherit, Cond.instanceMethod yX1_inherit, Cond.selects RX1 yX1_inherit yX1_inherit, Cond.initialized RX1, Cond.code yX1_inherit cX1_inherit 4 none, Cond.fieldLink RX1 21 "FeastLedger$Coppers" "size" "I", Cond.fieldLink RX1 9 "FeastLedger$Coppers" "owner" "[I", Cond.methodLink RX7 199 yX3_inherit, Cond.instanceMethod yX3_inherit, Cond.selects RX3 yX3_inherit yX3_inherit, Cond.initialized RX3, Cond.code yX3_inherit cX3_inherit 5 (some .int), Cond.fieldLink RX3 24 "FeastLedger$Debts" "size" "I", Cond.fieldLink RX3 18 "FeastLedger$Debts" "left" "[I"]
def wsL_died_r3 : List Cond := [Cond.fieldLink RX3 9 "FeastLedger$Debts" "debtor" "[I", Cond.fieldLink RX3 15 "FeastLedger$Debts" "creditor" "[I", Cond.methodLink RX3 32 yX3_isOpenBetween, Cond.instanceMethod yX3_isOpenBetween, Cond.selects RX3 yX3_isOpenBetween yX3_isOpenBetween, Cond.code yX3_isOpenBetween cX3_isOpenBetween 4 (some .boolean)]
def wsL_died : List Cond := .codeWith yL_died cL_died 5 (some .int) [(0, 10, 13, 25), (0, 10, 17, 13), (0, 10, 21, 15)] :: ((wsL_died_r1 ++ (wsL_died_r2 ++ wsL_died_r3)) ++ wsX70 ++ wsX00 ++ wsX10 ++ wsX30 ++ (vx_atS RX7 70 "java/lang/IllegalArgumentException" ["java/lang/RuntimeException", "java/lang/Exception"]).filter goodWord ++ (vx_atS RX7 211 "java/lang/IndexOutOfBoundsException" ["java/lang/RuntimeException", "java/lang/Exception"]).filter goodWord ++ (vx_atS RX7 80 "java/lang/IllegalStateException" ["java/lang/RuntimeException", "java/lang/Exception"]).filter goodWord)
def wsL_wait_r1 : List Cond := [Cond.classLink RL 13 "java/lang/IllegalArgumentException", Cond.methodLink RL 49 yX7_wait, Cond.instanceMethod yX7_wait, Cond.selects RX7 yX7_wait yX7_wait, Cond.initialized RX7, Cond.code yX7_wait cX7_wait 3 (some .int), Cond.classLink RX7 66 "java/lang/IllegalArgumentException", Cond.initialized "java/lang/IllegalArgumentException", Cond.fieldLink RX7 58 "FeastLedger" "now" "I", Cond.methodLink RX7 203 yX7_growLoans, Cond.instanceMethod yX7_growLoans, Cond.selects RX7 yX7_growLoans yX7_growLoans, Cond.code yX7_growLoans cX7_growLoans 3 none, Cond.fieldLink RX7 26 "FeastLedger" "customs" "LFeastLedger$Customs;", Cond.fieldLink RX7 40 "FeastLedger" "debts" "LFeastLedger$Debts;", Cond.fieldLink RX7 206 "FeastLedger$Debts" "size" "I", Cond.fieldLink RX7 218 "FeastLedger$Debts" "left" "[I", Cond.methodLink RX7 112 yX2_inForce, Cond.instanceMethod yX2_inForce, Cond.selects RX2 yX2_inForce yX2_inForce, Cond.initialized RX2, Cond.code yX2_inForce cX2_inForce 4 (some .int), Cond.fieldLink RX2 33 "FeastLedger$Customs" "size" "I", Cond.fieldLink RX2 9 "FeastLedger$Customs" "fromYear" "[I"]
def wsL_wait_r2 : List Cond := [Cond.methodLink RX7 221 yX3_isLoan, Cond.instanceMethod yX3_isLoan, Cond.selects RX3 yX3_isLoan yX3_isLoan, Cond.initialized RX3, Cond.code yX3_isLoan cX3_isLoan 2 (some .boolean), Cond.fieldLink RX3 21 "FeastLedger$Debts" "due" "[I", Cond.methodLink RX7 291 yX2_grown, Cond.instanceMethod yX2_grown, Cond.selects RX2 yX2_grown yX2_grown, Cond.code yX2_grown cX2_grown 6 (some .int), Cond.fieldLink RX2 27 "FeastLedger$Customs" "loanBy" "[I", Cond.fieldLink RX2 24 "FeastLedger$Customs" "loanTimes" "[I", Cond.constantLong RX2 51 (1000000000), Cond.methodLink RX2 53 Lib.MathLoose.min_long.x, Cond.static Lib.MathLoose.min_long.x, Cond.initialized "java/lang/Math", Cond.code Lib.MathLoose.min_long.x Lib.MathLoose.min_long.code 4 (some .long)]
def wsL_wait : List Cond := .codeWith yL_wait cL_wait 4 (some .int) [(0, 9, 12, 13)] :: ((wsL_wait_r1 ++ wsL_wait_r2) ++ wsX70 ++ wsX30 ++ wsX20 ++ (vx_atS RX7 70 "java/lang/IllegalArgumentException" ["java/lang/RuntimeException", "java/lang/Exception"]).filter goodWord)
def wsL_debt : List Cond := .codeWith yL_debt cL_debt 5 (some .int) [(0, 10, 13, 25), (0, 10, 17, 13)] :: ([.classLink RL 25 "java/lang/IndexOutOfBoundsException", .classLink RL 13 "java/lang/IllegalArgumentException", .methodLink RL 52 yX7_debt, .instanceMethod yX7_debt, .selects RX7 yX7_debt yX7_debt, .initialized RX7, .code yX7_debt cX7_debt 3 (some .int), .classLink RX7 207 "java/lang/IndexOutOfBoundsException", .initialized "java/lang/IndexOutOfBoundsException", .classLink RX7 66 "java/lang/IllegalArgumentException", .initialized "java/lang/IllegalArgumentException", .fieldLink RX7 40 "FeastLedger" "debts" "LFeastLedger$Debts;", .fieldLink RX7 206 "FeastLedger$Debts" "size" "I", .fieldLink RX7 212 "FeastLedger$Debts" "debtor" "[I", .fieldLink RX7 215 "FeastLedger$Debts" "creditor" "[I", .fieldLink RX7 218 "FeastLedger$Debts" "left" "[I", .fieldLink RX7 225 "FeastLedger$Debts" "due" "[I", .methodLink RX7 221 yX3_isLoan, .instanceMethod yX3_isLoan, .selects RX3 yX3_isLoan yX3_isLoan, .initialized RX3, .code yX3_isLoan cX3_isLoan 2 (some .boolean), .fieldLink RX3 21 "FeastLedger$Debts" "due" "[I"] ++ wsX70 ++ wsX30 ++ (vx_atS RX7 211 "java/lang/IndexOutOfBoundsException" ["java/lang/RuntimeException", "java/lang/Exception"]).filter goodWord ++ (vx_atS RX7 70 "java/lang/IllegalArgumentException" ["java/lang/RuntimeException", "java/lang/Exception"]).filter goodWord)
def wsL_about_r1 : List Cond := [Cond.classLink RL 25 "java/lang/IndexOutOfBoundsException", Cond.classLink RL 13 "java/lang/IllegalArgumentException", Cond.methodLink RL 55 yX7_about, Cond.instanceMethod yX7_about, Cond.selects RX7 yX7_about yX7_about, Cond.initialized RX7, Cond.code yX7_about cX7_about 3 (some .int), Cond.classLink RX7 66 "java/lang/IllegalArgumentException", Cond.initialized "java/lang/IllegalArgumentException", Cond.fieldLink RX7 33 "FeastLedger" "chiefs" "LFeastLedger$Chiefs;", Cond.fieldLink RX7 119 "FeastLedger$Chiefs" "blankets" "[I", Cond.fieldLink RX7 191 "FeastLedger$Chiefs" "lives" "[Z", Cond.methodLink RX7 140 yX7_checkChief, Cond.instanceMethod yX7_checkChief, Cond.selects RX7 yX7_checkChief yX7_checkChief, Cond.code yX7_checkChief cX7_checkChief 2 none, Cond.classLink RX7 207 "java/lang/IndexOutOfBoundsException", Cond.initialized "java/lang/IndexOutOfBoundsException", Cond.fieldLink RX7 73 "FeastLedger$Chiefs" "size" "I", Cond.methodLink RX7 233 yX0_placeInRank, Cond.instanceMethod yX0_placeInRank, Cond.selects RX0 yX0_placeInRank yX0_placeInRank, Cond.initialized RX0, Cond.code yX0_placeInRank cX0_placeInRank 5 (some .int)]
def wsL_about_r2 : List Cond := [Cond.fieldLink RX0 19 "FeastLedger$Chiefs" "lives" "[Z", Cond.fieldLink RX0 23 "FeastLedger$Chiefs" "size" "I", Cond.fieldLink RX0 15 "FeastLedger$Chiefs" "fame" "[J"]
def wsL_about : List Cond := .codeWith yL_about cL_about 5 (some .int) [(0, 10, 13, 25), (0, 10, 17, 13)] :: ((wsL_about_r1 ++ wsL_about_r2) ++ wsX70 ++ wsX00 ++ (vx_atS RX7 70 "java/lang/IllegalArgumentException" ["java/lang/RuntimeException", "java/lang/Exception"]).filter goodWord ++ (vx_atS RX7 211 "java/lang/IndexOutOfBoundsException" ["java/lang/RuntimeException", "java/lang/Exception"]).filter goodWord)
def wsL_fame : List Cond := .codeWith yL_fame cL_fame 4 (some .int) [(0, 8, 11, 25)] :: ([.classLink RL 25 "java/lang/IndexOutOfBoundsException", .methodLink RL 58 yX7_fame, .instanceMethod yX7_fame, .selects RX7 yX7_fame yX7_fame, .initialized RX7, .code yX7_fame cX7_fame 2 (some .long), .fieldLink RX7 33 "FeastLedger" "chiefs" "LFeastLedger$Chiefs;", .fieldLink RX7 238 "FeastLedger$Chiefs" "fame" "[J", .methodLink RX7 140 yX7_checkChief, .instanceMethod yX7_checkChief, .selects RX7 yX7_checkChief yX7_checkChief, .code yX7_checkChief cX7_checkChief 2 none, .classLink RX7 207 "java/lang/IndexOutOfBoundsException", .initialized "java/lang/IndexOutOfBoundsException", .fieldLink RX7 73 "FeastLedger$Chiefs" "size" "I"] ++ wsX70 ++ wsX00 ++ (vx_atS RX7 211 "java/lang/IndexOutOfBoundsException" ["java/lang/RuntimeException", "java/lang/Exception"]).filter goodWord)
def wsL_gather_r1 : List Cond := [Cond.classLink RL 25 "java/lang/IndexOutOfBoundsException", Cond.methodLink RL 62 yX7_gather, Cond.instanceMethod yX7_gather, Cond.selects RX7 yX7_gather yX7_gather, Cond.initialized RX7, Cond.code yX7_gather cX7_gather 3 (some .long), Cond.fieldLink RX7 33 "FeastLedger" "chiefs" "LFeastLedger$Chiefs;", Cond.fieldLink RX7 191 "FeastLedger$Chiefs" "lives" "[Z", Cond.constantLong RX7 242 (-1), Cond.fieldLink RX7 54 "FeastLedger" "gathering" "LFeastLedger$Gathering;", Cond.fieldLink RX7 40 "FeastLedger" "debts" "LFeastLedger$Debts;", Cond.methodLink RX7 140 yX7_checkChief, Cond.instanceMethod yX7_checkChief, Cond.selects RX7 yX7_checkChief yX7_checkChief, Cond.code yX7_checkChief cX7_checkChief 2 none, Cond.classLink RX7 207 "java/lang/IndexOutOfBoundsException", Cond.initialized "java/lang/IndexOutOfBoundsException", Cond.fieldLink RX7 73 "FeastLedger$Chiefs" "size" "I", Cond.methodLink RX7 244 yX4_callIn, Cond.instanceMethod yX4_callIn, Cond.selects RX4 yX4_callIn yX4_callIn, Cond.initialized RX4, Cond.code yX4_callIn cX4_callIn 6 none, Cond.fieldLink RX4 9 "FeastLedger$Gathering" "stock" "[J"]
def wsL_gather_r2 : List Cond := [Cond.fieldLink RX4 31 "FeastLedger$Chiefs" "blankets" "[I", Cond.fieldLink RX4 17 "FeastLedger$Gathering" "open" "[[J", Cond.fieldLink RX4 36 "FeastLedger$Debts" "size" "I", Cond.fieldLink RX4 46 "FeastLedger$Debts" "due" "[I", Cond.fieldLink RX4 49 "FeastLedger$Debts" "debtor" "[I", Cond.fieldLink RX4 52 "FeastLedger$Debts" "creditor" "[I", Cond.fieldLink RX4 55 "FeastLedger$Debts" "left" "[I", Cond.methodLink RX4 42 yX3_isLoan, Cond.instanceMethod yX3_isLoan, Cond.selects RX3 yX3_isLoan yX3_isLoan, Cond.initialized RX3, Cond.code yX3_isLoan cX3_isLoan 2 (some .boolean), Cond.fieldLink RX3 21 "FeastLedger$Debts" "due" "[I", Cond.methodLink RX7 248 yX4_most, Cond.instanceMethod yX4_most, Cond.selects RX4 yX4_most yX4_most, Cond.code yX4_most cX4_most 6 (some .long), Cond.methodLink RX4 58 yX4_nearestGiver, Cond.instanceMethod yX4_nearestGiver, Cond.selects RX4 yX4_nearestGiver yX4_nearestGiver, Cond.code yX4_nearestGiver cX4_nearestGiver 6 (some .int), Cond.fieldLink RX4 20 "FeastLedger$Gathering" "found" "[Z", Cond.fieldLink RX4 28 "FeastLedger$Gathering" "queue" "[I", Cond.fieldLink RX4 24 "FeastLedger$Gathering" "next" "[I"]
def wsL_gather_r3 : List Cond := [Cond.methodLink RX4 62 yX4_handOn, Cond.instanceMethod yX4_handOn, Cond.selects RX4 yX4_handOn yX4_handOn, Cond.code yX4_handOn cX4_handOn 7 (some .long), Cond.methodLink RX4 66 Lib.MathLoose.min_long.x, Cond.static Lib.MathLoose.min_long.x, Cond.initialized "java/lang/Math", Cond.code Lib.MathLoose.min_long.x Lib.MathLoose.min_long.code 4 (some .long)]
def wsL_gather : List Cond := .codeWith yL_gather cL_gather 5 (some .int) [(0, 9, 12, 25)] :: ((wsL_gather_r1 ++ (wsL_gather_r2 ++ wsL_gather_r3)) ++ wsX70 ++ wsX00 ++ wsX40 ++ wsX30 ++ (vx_atS RX7 211 "java/lang/IndexOutOfBoundsException" ["java/lang/RuntimeException", "java/lang/Exception"]).filter goodWord)
def wsL_hold_r1 : List Cond := [Cond.classLink RL 25 "java/lang/IndexOutOfBoundsException", Cond.methodLink RL 66 yX7_hold, Cond.instanceMethod yX7_hold, Cond.selects RX7 yX7_hold yX7_hold, Cond.initialized RX7, Cond.code yX7_hold cX7_hold 3 (some .int), Cond.fieldLink RX7 33 "FeastLedger" "chiefs" "LFeastLedger$Chiefs;", Cond.fieldLink RX7 191 "FeastLedger$Chiefs" "lives" "[Z", Cond.fieldLink RX7 54 "FeastLedger" "gathering" "LFeastLedger$Gathering;", Cond.fieldLink RX7 40 "FeastLedger" "debts" "LFeastLedger$Debts;", Cond.methodLink RX7 140 yX7_checkChief, Cond.instanceMethod yX7_checkChief, Cond.selects RX7 yX7_checkChief yX7_checkChief, Cond.code yX7_checkChief cX7_checkChief 2 none, Cond.classLink RX7 207 "java/lang/IndexOutOfBoundsException", Cond.initialized "java/lang/IndexOutOfBoundsException", Cond.fieldLink RX7 73 "FeastLedger$Chiefs" "size" "I", Cond.methodLink RX7 244 yX4_callIn, Cond.instanceMethod yX4_callIn, Cond.selects RX4 yX4_callIn yX4_callIn, Cond.initialized RX4, Cond.code yX4_callIn cX4_callIn 6 none, Cond.fieldLink RX4 9 "FeastLedger$Gathering" "stock" "[J", Cond.fieldLink RX4 31 "FeastLedger$Chiefs" "blankets" "[I"]
def wsL_hold_r2 : List Cond := [Cond.fieldLink RX4 17 "FeastLedger$Gathering" "open" "[[J", Cond.fieldLink RX4 36 "FeastLedger$Debts" "size" "I", Cond.fieldLink RX4 46 "FeastLedger$Debts" "due" "[I", Cond.fieldLink RX4 49 "FeastLedger$Debts" "debtor" "[I", Cond.fieldLink RX4 52 "FeastLedger$Debts" "creditor" "[I", Cond.fieldLink RX4 55 "FeastLedger$Debts" "left" "[I", Cond.methodLink RX4 42 yX3_isLoan, Cond.instanceMethod yX3_isLoan, Cond.selects RX3 yX3_isLoan yX3_isLoan, Cond.initialized RX3, Cond.code yX3_isLoan cX3_isLoan 2 (some .boolean), Cond.fieldLink RX3 21 "FeastLedger$Debts" "due" "[I", Cond.methodLink RX7 248 yX4_most, Cond.instanceMethod yX4_most, Cond.selects RX4 yX4_most yX4_most, Cond.code yX4_most cX4_most 6 (some .long), Cond.methodLink RX4 58 yX4_nearestGiver, Cond.instanceMethod yX4_nearestGiver, Cond.selects RX4 yX4_nearestGiver yX4_nearestGiver, Cond.code yX4_nearestGiver cX4_nearestGiver 6 (some .int), Cond.fieldLink RX4 20 "FeastLedger$Gathering" "found" "[Z", Cond.fieldLink RX4 28 "FeastLedger$Gathering" "queue" "[I", Cond.fieldLink RX4 24 "FeastLedger$Gathering" "next" "[I", Cond.methodLink RX4 62 yX4_handOn]
def wsL_hold_r3 : List Cond := [Cond.instanceMethod yX4_handOn, Cond.selects RX4 yX4_handOn yX4_handOn, Cond.code yX4_handOn cX4_handOn 7 (some .long), Cond.methodLink RX4 66 Lib.MathLoose.min_long.x, Cond.static Lib.MathLoose.min_long.x, Cond.initialized "java/lang/Math", Cond.code Lib.MathLoose.min_long.x Lib.MathLoose.min_long.code 4 (some .long), Cond.methodLink RX7 252 yX4_side, Cond.instanceMethod yX4_side, Cond.selects RX4 yX4_side yX4_side, Cond.code yX4_side cX4_side 3 (some .int)]
def wsL_hold : List Cond := .codeWith yL_hold cL_hold 5 (some .int) [(0, 10, 13, 25)] :: ((wsL_hold_r1 ++ (wsL_hold_r2 ++ wsL_hold_r3)) ++ wsX70 ++ wsX00 ++ wsX40 ++ wsX30 ++ (vx_atS RX7 211 "java/lang/IndexOutOfBoundsException" ["java/lang/RuntimeException", "java/lang/Exception"]).filter goodWord)
def wsL_law0_r1 : List Cond := [Cond.classLink RL 8 RX7, Cond.instantiable RX7 9, Cond.initialized RX7, Cond.classLink RL 70 RX8, Cond.instantiable RX8 31, Cond.initialized RX8, Cond.arrayClass .long, Cond.methodLink RL 69 yX7_init, Cond.instanceMethod yX7_init, Cond.code yX7_init cX7_init 1 none, Cond.methodLink RX7 1 objectInit, Cond.instanceMethod objectInit, Cond.code objectInit ⟨#[0xb1]⟩ 1 none, Cond.classLink RX7 7 RX5, Cond.instantiable RX5 2, Cond.initialized RX5, Cond.fieldLink RX7 10 "FeastLedger" "tape" "LFeastLedger$Tape;", Cond.classLink RX7 16 RX6, Cond.instantiable RX6 11, Cond.initialized RX6, Cond.fieldLink RX7 19 "FeastLedger" "reader" "LFeastLedger$TextReader;", Cond.classLink RX7 23 RX2, Cond.instantiable RX2 8, Cond.initialized RX2]
def wsL_law0_r2 : List Cond := [Cond.fieldLink RX7 26 "FeastLedger" "customs" "LFeastLedger$Customs;", Cond.classLink RX7 30 RX0, Cond.instantiable RX0 4, Cond.initialized RX0, Cond.fieldLink RX7 33 "FeastLedger" "chiefs" "LFeastLedger$Chiefs;", Cond.classLink RX7 37 RX3, Cond.instantiable RX3 5, Cond.initialized RX3, Cond.fieldLink RX7 40 "FeastLedger" "debts" "LFeastLedger$Debts;", Cond.classLink RX7 44 RX1, Cond.instantiable RX1 4, Cond.initialized RX1, Cond.fieldLink RX7 47 "FeastLedger" "coppers" "LFeastLedger$Coppers;", Cond.classLink RX7 51 RX4, Cond.instantiable RX4 5, Cond.initialized RX4, Cond.fieldLink RX7 54 "FeastLedger" "gathering" "LFeastLedger$Gathering;", Cond.fieldLink RX7 58 "FeastLedger" "now" "I", Cond.fieldLink RX7 62 "FeastLedger" "faultPlace" "I", Cond.instanceMethod yX5_init, Cond.code yX5_init cX5_init 1 none, Cond.methodLink RX5 3 objectInit, Cond.arrayClass .byte, Cond.fieldLink RX5 9 "FeastLedger$Tape" "bytes" "[B"]
def wsL_law0_r3 : List Cond := [Cond.fieldLink RX5 15 "FeastLedger$Tape" "length" "I", Cond.instanceMethod yX6_init, Cond.code yX6_init cX6_init 1 none, Cond.methodLink RX6 3 objectInit, Cond.fieldLink RX6 9 "FeastLedger$TextReader" "text" "[B", Cond.instanceMethod yX2_init, Cond.code yX2_init cX2_init 1 none, Cond.methodLink RX2 3 objectInit, Cond.arrayClass .int, Cond.fieldLink RX2 9 "FeastLedger$Customs" "fromYear" "[I", Cond.fieldLink RX2 15 "FeastLedger$Customs" "returnTimes" "[I", Cond.fieldLink RX2 18 "FeastLedger$Customs" "returnBy" "[I", Cond.fieldLink RX2 21 "FeastLedger$Customs" "within" "[I", Cond.fieldLink RX2 24 "FeastLedger$Customs" "loanTimes" "[I", Cond.fieldLink RX2 27 "FeastLedger$Customs" "loanBy" "[I", Cond.fieldLink RX2 30 "FeastLedger$Customs" "witness" "[I", Cond.fieldLink RX2 33 "FeastLedger$Customs" "size" "I", Cond.instanceMethod yX0_init, Cond.code yX0_init cX0_init 1 none, Cond.methodLink RX0 3 objectInit, Cond.fieldLink RX0 9 "FeastLedger$Chiefs" "blankets" "[I", Cond.fieldLink RX0 15 "FeastLedger$Chiefs" "fame" "[J", Cond.arrayClass .boolean, Cond.fieldLink RX0 19 "FeastLedger$Chiefs" "lives" "[Z"]
def wsL_law0_r4 : List Cond := [Cond.fieldLink RX0 23 "FeastLedger$Chiefs" "size" "I", Cond.instanceMethod yX3_init, Cond.code yX3_init cX3_init 1 none, Cond.methodLink RX3 3 objectInit, Cond.fieldLink RX3 9 "FeastLedger$Debts" "debtor" "[I", Cond.fieldLink RX3 15 "FeastLedger$Debts" "creditor" "[I", Cond.fieldLink RX3 18 "FeastLedger$Debts" "left" "[I", Cond.fieldLink RX3 21 "FeastLedger$Debts" "due" "[I", Cond.fieldLink RX3 24 "FeastLedger$Debts" "size" "I", Cond.instanceMethod yX1_init, Cond.code yX1_init cX1_init 1 none, Cond.methodLink RX1 3 objectInit, Cond.fieldLink RX1 9 "FeastLedger$Coppers" "owner" "[I", Cond.fieldLink RX1 15 "FeastLedger$Coppers" "firstWorth" "[I", Cond.fieldLink RX1 18 "FeastLedger$Coppers" "worth" "[I", Cond.fieldLink RX1 21 "FeastLedger$Coppers" "size" "I", Cond.instanceMethod yX4_init, Cond.code yX4_init cX4_init 1 none, Cond.methodLink RX4 3 objectInit, Cond.fieldLink RX4 9 "FeastLedger$Gathering" "stock" "[J", Cond.classLink RX4 15 "[[J", Cond.fieldLink RX4 17 "FeastLedger$Gathering" "open" "[[J", Cond.fieldLink RX4 20 "FeastLedger$Gathering" "found" "[Z", Cond.fieldLink RX4 24 "FeastLedger$Gathering" "next" "[I"]
def wsL_law0_r5 : List Cond := [Cond.fieldLink RX4 28 "FeastLedger$Gathering" "queue" "[I", Cond.methodLink RL 72 yX8_init, Cond.instanceMethod yX8_init, Cond.code yX8_init cX8_init 1 none, Cond.methodLink RX8 1 objectInit, Cond.fieldLink RX8 9 "FeastLedgerModel" "blankets" "[I", Cond.fieldLink RX8 13 "FeastLedgerModel" "fames" "[J", Cond.fieldLink RX8 17 "FeastLedgerModel" "isDead" "[Z", Cond.fieldLink RX8 21 "FeastLedgerModel" "tape" "[B", Cond.fieldLink RX8 25 "FeastLedgerModel" "place" "I", Cond.fieldLink RX8 29 "FeastLedgerModel" "since" "[I", Cond.fieldLink RX8 32 "FeastLedgerModel" "terms" "[I", Cond.fieldLink RX8 35 "FeastLedgerModel" "owes" "[I", Cond.fieldLink RX8 38 "FeastLedgerModel" "whom" "[I", Cond.fieldLink RX8 41 "FeastLedgerModel" "left" "[J", Cond.fieldLink RX8 44 "FeastLedgerModel" "isLoan" "[Z", Cond.fieldLink RX8 47 "FeastLedgerModel" "due" "[I", Cond.fieldLink RX8 50 "FeastLedgerModel" "owner" "[I", Cond.fieldLink RX8 53 "FeastLedgerModel" "worth" "[I", Cond.fieldLink RX8 56 "FeastLedgerModel" "first" "[I", Cond.fieldLink RX8 59 "FeastLedgerModel" "can" "[J", Cond.fieldLink RX8 62 "FeastLedgerModel" "has" "[J", Cond.fieldLink RX8 65 "FeastLedgerModel" "to" "[I", Cond.fieldLink RX8 68 "FeastLedgerModel" "isSeen" "[Z"]
def wsL_law0_r6 : List Cond := [Cond.fieldLink RX8 71 "FeastLedgerModel" "row" "[I", Cond.methodLink RL 73 yL_chief, Cond.static yL_chief, Cond.initialized RL, Cond.codeWith yL_chief cL_chief 4 (some .int) [(0, 9, 12, 13), (0, 9, 15, 15)], Cond.classLink RL 13 "java/lang/IllegalArgumentException", Cond.classLink RL 15 "java/lang/IllegalStateException", Cond.methodLink RL 7 yX7_chief, Cond.instanceMethod yX7_chief, Cond.selects RX7 yX7_chief yX7_chief, Cond.code yX7_chief cX7_chief 2 (some .int), Cond.classLink RX7 66 "java/lang/IllegalArgumentException", Cond.initialized "java/lang/IllegalArgumentException", Cond.classLink RX7 76 "java/lang/IllegalStateException", Cond.initialized "java/lang/IllegalStateException", Cond.constant RX7 65 (1000000), Cond.fieldLink RX7 73 "FeastLedger$Chiefs" "size" "I", Cond.methodLink RX7 81 yX0_add, Cond.instanceMethod yX0_add, Cond.selects RX0 yX0_add yX0_add, Cond.code yX0_add cX0_add 2 (some .int), Cond.methodLink RL 78 yX8_chief, Cond.instanceMethod yX8_chief, Cond.selects RX8 yX8_chief yX8_chief]
def wsL_law0_r7 : List Cond := [Cond.code yX8_chief cX8_chief 2 (some .int), Cond.fieldLink RX8 74 "FeastLedgerModel" "thrown" "I", Cond.constant RX8 77 (1000000), Cond.fieldLink RX8 82 "FeastLedgerModel" "chiefs" "I", Cond.methodLink RX8 78 yX8_bad, Cond.instanceMethod yX8_bad, Cond.selects RX8 yX8_bad yX8_bad, Cond.code yX8_bad cX8_bad 3 (some .boolean), Cond.methodLink RL 79 yX8_thrown, Cond.instanceMethod yX8_thrown, Cond.selects RX8 yX8_thrown yX8_thrown, Cond.code yX8_thrown cX8_thrown 1 (some .int), Cond.methodLink RL 83 yX7_feed, Cond.instanceMethod yX7_feed, Cond.selects RX7 yX7_feed yX7_feed, Cond.code yX7_feed cX7_feed 6 (some .int), Cond.fieldLink RX7 85 "FeastLedger$Tape" "length" "I", Cond.methodLink RX7 88 yX5_append, Cond.instanceMethod yX5_append, Cond.selects RX5 yX5_append yX5_append, Cond.code yX5_append cX5_append 3 none, Cond.methodLink RL 87 yX8_feed, Cond.instanceMethod yX8_feed, Cond.selects RX8 yX8_feed yX8_feed]
def wsL_law0_r8 : List Cond := [Cond.code yX8_feed cX8_feed 9 (some .int), Cond.fieldLink RX8 85 "FeastLedgerModel" "taped" "I", Cond.methodLink RL 88 yL_custom, Cond.static yL_custom, Cond.codeWith yL_custom cL_custom 5 (some .int) [(0, 10, 13, 13), (0, 10, 17, 15)], Cond.methodLink RL 17 yX7_custom, Cond.instanceMethod yX7_custom, Cond.selects RX7 yX7_custom yX7_custom, Cond.code yX7_custom cX7_custom 3 (some .int), Cond.fieldLink RX7 94 "FeastLedger$Customs" "size" "I", Cond.fieldLink RX7 97 "FeastLedger$Tape" "bytes" "[B", Cond.fieldLink RX7 105 "FeastLedger$TextReader" "faultPlace" "I", Cond.fieldLink RX7 106 "FeastLedger$TextReader" "fault" "I", Cond.methodLink RX7 101 yX6_read, Cond.instanceMethod yX6_read, Cond.selects RX6 yX6_read yX6_read, Cond.code yX6_read cX6_read 4 none, Cond.methodLink RX6 15 arraycopyName, Cond.native arraycopyName, Cond.static arraycopyName, Cond.initialized "java/lang/System", Cond.fieldLink RX6 21 "FeastLedger$TextReader" "length" "I", Cond.fieldLink RX6 25 "FeastLedger$TextReader" "at" "I", Cond.fieldLink RX6 28 "FeastLedger$TextReader" "fault" "I"]
def wsL_law0_r9 : List Cond := [Cond.fieldLink RX6 31 "FeastLedger$TextReader" "faultPlace" "I", Cond.fieldLink RX6 34 "FeastLedger$TextReader" "returnBy" "I", Cond.fieldLink RX6 37 "FeastLedger$TextReader" "loanBy" "I", Cond.fieldLink RX6 40 "FeastLedger$TextReader" "witness" "I", Cond.methodLink RX6 43 yX6_skipBlanks, Cond.instanceMethod yX6_skipBlanks, Cond.selects RX6 yX6_skipBlanks yX6_skipBlanks, Cond.code yX6_skipBlanks cX6_skipBlanks 1 none, Cond.methodLink RX6 46 yX6_readClause, Cond.instanceMethod yX6_readClause, Cond.selects RX6 yX6_readClause yX6_readClause, Cond.code yX6_readClause cX6_readClause 6 none, Cond.methodLink RX6 50 yX6_skipLetters, Cond.instanceMethod yX6_skipLetters, Cond.selects RX6 yX6_skipLetters yX6_skipLetters, Cond.code yX6_skipLetters cX6_skipLetters 1 none, Cond.methodLink RX6 55 yX6_spells, Cond.instanceMethod yX6_spells, Cond.selects RX6 yX6_spells yX6_spells, Cond.code yX6_spells cX6_spells 4 (some .boolean), Cond.methodLink RX6 99 yJ0_length_8abf5, Cond.instanceMethod yJ0_length_8abf5, Cond.selects RJ0 yJ0_length_8abf5 yJ0_length_8abf5, Cond.initialized RJ0]
def wsL_law0_r10 : List Cond := [Cond.code yJ0_length_8abf5 cJ0_length_8abf5 1 (some .int), Cond.fieldLink RJ0 9 "java/lang/String" "value" "[B", Cond.methodLink RJ0 335 yJ0_coder_7d493, Cond.instanceMethod yJ0_coder_7d493, Cond.selects RJ0 yJ0_coder_7d493 yJ0_coder_7d493, Cond.code yJ0_coder_7d493 cJ0_coder_7d493 1 (some .byte), Cond.fieldLink RJ0 38 "java/lang/String" "COMPACT_STRINGS" "Z", Cond.fieldLink RJ0 15 "java/lang/String" "coder" "B", Cond.methodLink RX6 104 yJ0_charAt_5068e, Cond.instanceMethod yJ0_charAt_5068e, Cond.selects RJ0 yJ0_charAt_5068e yJ0_charAt_5068e, Cond.code yJ0_charAt_5068e cJ0_charAt_5068e 2 (some .char), Cond.methodLink RJ0 492 yJ0_isLatin1_aae02, Cond.instanceMethod yJ0_isLatin1_aae02, Cond.selects RJ0 yJ0_isLatin1_aae02 yJ0_isLatin1_aae02, Cond.code yJ0_isLatin1_aae02 cJ0_isLatin1_aae02 1 (some .boolean), Cond.methodLink RJ0 495 yJ1_charAt_3b067, Cond.static yJ1_charAt_3b067, Cond.initialized RJ1, Cond.code yJ1_charAt_3b067 cJ1_charAt_3b067 2 (some .char), Cond.methodLink RJ1 9 yJ0_checkIndex_df160, Cond.static yJ0_checkIndex_df160, Cond.code yJ0_checkIndex_df160 cJ0_checkIndex_df160 2 none, Cond.fieldLink RJ0 1053 "jdk/internal/util/Preconditions" "SIOOBE_FORMATTER" "Ljava/util/function/BiFunction;"]
def wsL_law0_r11 : List Cond := [Cond.methodLink RJ0 1059 yJ3_checkIndex_8e157, Cond.static yJ3_checkIndex_8e157, Cond.initialized RJ3, Cond.code yJ3_checkIndex_8e157 cJ3_checkIndex_8e157 3 (some .int), Cond.methodLink RJ0 498 yJ2_charAt_3b067, Cond.static yJ2_charAt_3b067, Cond.initialized RJ2, Cond.code yJ2_charAt_3b067 cJ2_charAt_3b067 2 (some .char), Cond.methodLink RJ2 67 yJ2_checkIndex_2214a, Cond.static yJ2_checkIndex_2214a, Cond.code yJ2_checkIndex_2214a cJ2_checkIndex_2214a 2 none, Cond.methodLink RJ2 48 yJ2_length_9d52b, Cond.static yJ2_length_9d52b, Cond.code yJ2_length_9d52b cJ2_length_9d52b 1 (some .int), Cond.methodLink RJ2 414 yJ0_checkIndex_df160, Cond.methodLink RJ2 71 yJ2_getChar_3b067, Cond.static yJ2_getChar_3b067, Cond.code yJ2_getChar_3b067 cJ2_getChar_3b067 2 (some .char), Cond.fieldLink RJ2 44 "java/lang/StringUTF16" "$assertionsDisabled" "Z", Cond.fieldLink RJ2 59 "java/lang/StringUTF16" "HI_BYTE_SHIFT" "I", Cond.fieldLink RJ2 63 "java/lang/StringUTF16" "LO_BYTE_SHIFT" "I", Cond.methodLink RX6 62 yX6_mark, Cond.instanceMethod yX6_mark, Cond.selects RX6 yX6_mark yX6_mark]
def wsL_law0_r12 : List Cond := [Cond.code yX6_mark cX6_mark 3 none, Cond.methodLink RX6 66 yX6_readReturn, Cond.instanceMethod yX6_readReturn, Cond.selects RX6 yX6_readReturn yX6_readReturn, Cond.code yX6_readReturn cX6_readReturn 1 none, Cond.fieldLink RX6 80 "FeastLedger$TextReader" "returnTimes" "I", Cond.fieldLink RX6 86 "FeastLedger$TextReader" "within" "I", Cond.methodLink RX6 72 yX6_readNumber, Cond.instanceMethod yX6_readNumber, Cond.selects RX6 yX6_readNumber yX6_readNumber, Cond.code yX6_readNumber cX6_readNumber 4 (some .int), Cond.methodLink RX6 93 Lib.Math.min.name, Cond.static Lib.Math.min.name, Cond.initialized "java/lang/Math", Cond.code Lib.Math.min.name Lib.Math.min.code 2 (some .int), Cond.methodLink RX6 76 yX6_readSign, Cond.instanceMethod yX6_readSign, Cond.selects RX6 yX6_readSign yX6_readSign, Cond.code yX6_readSign cX6_readSign 2 none, Cond.methodLink RX6 83 yX6_readWithin, Cond.instanceMethod yX6_readWithin, Cond.selects RX6 yX6_readWithin yX6_readWithin, Cond.code yX6_readWithin cX6_readWithin 2 none, Cond.methodLink RX6 69 yX6_readLoan]
def wsL_law0_r13 : List Cond := [Cond.instanceMethod yX6_readLoan, Cond.selects RX6 yX6_readLoan yX6_readLoan, Cond.code yX6_readLoan cX6_readLoan 1 none, Cond.fieldLink RX6 89 "FeastLedger$TextReader" "loanTimes" "I", Cond.methodLink RX7 109 yX2_add, Cond.instanceMethod yX2_add, Cond.selects RX2 yX2_add yX2_add, Cond.code yX2_add cX2_add 3 (some .int), Cond.fieldLink RX2 37 "FeastLedger$TextReader" "returnTimes" "I", Cond.fieldLink RX2 41 "FeastLedger$TextReader" "returnBy" "I", Cond.fieldLink RX2 43 "FeastLedger$TextReader" "within" "I", Cond.fieldLink RX2 45 "FeastLedger$TextReader" "loanTimes" "I", Cond.fieldLink RX2 47 "FeastLedger$TextReader" "loanBy" "I", Cond.fieldLink RX2 49 "FeastLedger$TextReader" "witness" "I", Cond.methodLink RL 91 yX8_custom, Cond.instanceMethod yX8_custom, Cond.selects RX8 yX8_custom yX8_custom, Cond.code yX8_custom cX8_custom 6 (some .int), Cond.fieldLink RX8 148 "FeastLedgerModel" "customs" "I", Cond.fieldLink RX8 88 "FeastLedgerModel" "size" "I", Cond.fieldLink RX8 91 "FeastLedgerModel" "at" "I", Cond.fieldLink RX8 98 "FeastLedgerModel" "fault" "I", Cond.methodLink RX8 101 yX8_blanks, Cond.instanceMethod yX8_blanks]
def wsL_law0_r14 : List Cond := [Cond.selects RX8 yX8_blanks yX8_blanks, Cond.code yX8_blanks cX8_blanks 1 none, Cond.methodLink RX8 94 yX8_byteAt, Cond.instanceMethod yX8_byteAt, Cond.selects RX8 yX8_byteAt yX8_byteAt, Cond.code yX8_byteAt cX8_byteAt 2 (some .int), Cond.methodLink RX8 118 yX8_isWord, Cond.instanceMethod yX8_isWord, Cond.selects RX8 yX8_isWord yX8_isWord, Cond.code yX8_isWord cX8_isWord 3 (some .boolean), Cond.methodLink RX8 104 yJ0_length_8abf5, Cond.methodLink RX8 110 yJ0_charAt_5068e, Cond.methodLink RX8 114 yX8_isSmall, Cond.static yX8_isSmall, Cond.code yX8_isSmall cX8_isSmall 1 (some .boolean), Cond.methodLink RX8 122 yX8_wrong, Cond.instanceMethod yX8_wrong, Cond.selects RX8 yX8_wrong yX8_wrong, Cond.code yX8_wrong cX8_wrong 3 none, Cond.methodLink RX8 151 yX8_clause, Cond.instanceMethod yX8_clause, Cond.selects RX8 yX8_clause yX8_clause, Cond.code yX8_clause cX8_clause 5 none, Cond.methodLink RX8 131 yX8_need]
def wsL_law0_r15 : List Cond := [Cond.instanceMethod yX8_need, Cond.selects RX8 yX8_need yX8_need, Cond.code yX8_need cX8_need 2 none, Cond.methodLink RX8 135 yX8_number, Cond.instanceMethod yX8_number, Cond.selects RX8 yX8_number yX8_number, Cond.code yX8_number cX8_number 4 (some .int), Cond.methodLink RX8 126 yX8_isDigit, Cond.static yX8_isDigit, Cond.code yX8_isDigit cX8_isDigit 1 (some .boolean), Cond.methodLink RX8 138 yX8_sign, Cond.instanceMethod yX8_sign, Cond.selects RX8 yX8_sign yX8_sign, Cond.code yX8_sign cX8_sign 2 none, Cond.methodLink RL 92 yX7_fault, Cond.instanceMethod yX7_fault, Cond.selects RX7 yX7_fault yX7_fault, Cond.code yX7_fault cX7_fault 1 (some .int), Cond.methodLink RL 95 yX8_fault, Cond.instanceMethod yX8_fault, Cond.selects RX8 yX8_fault yX8_fault, Cond.code yX8_fault cX8_fault 1 (some .int), Cond.methodLink RL 96 yX7_force, Cond.instanceMethod yX7_force]
def wsL_law0_r16 : List Cond := [Cond.selects RX7 yX7_force yX7_force, Cond.code yX7_force cX7_force 2 (some .int), Cond.methodLink RX7 112 yX2_inForce, Cond.instanceMethod yX2_inForce, Cond.selects RX2 yX2_inForce yX2_inForce, Cond.code yX2_inForce cX2_inForce 4 (some .int), Cond.methodLink RL 99 yX8_force, Cond.instanceMethod yX8_force, Cond.selects RX8 yX8_force yX8_force, Cond.code yX8_force cX8_force 2 (some .int), Cond.methodLink RX8 154 yX8_forceOf, Cond.instanceMethod yX8_forceOf, Cond.selects RX8 yX8_forceOf yX8_forceOf, Cond.code yX8_forceOf cX8_forceOf 4 (some .int), Cond.methodLink RL 100 yL_give, Cond.static yL_give, Cond.codeWith yL_give cL_give 6 (some .int) [(0, 12, 15, 25), (0, 12, 19, 13), (0, 12, 23, 15)], Cond.classLink RL 25 "java/lang/IndexOutOfBoundsException", Cond.methodLink RL 21 yX7_give, Cond.instanceMethod yX7_give, Cond.selects RX7 yX7_give yX7_give, Cond.code yX7_give cX7_give 4 (some .int), Cond.fieldLink RX7 119 "FeastLedger$Chiefs" "blankets" "[I", Cond.methodLink RX7 115 yX7_checkHandingOver]
def wsL_law0_r17 : List Cond := [Cond.instanceMethod yX7_checkHandingOver, Cond.selects RX7 yX7_checkHandingOver yX7_checkHandingOver, Cond.code yX7_checkHandingOver cX7_checkHandingOver 4 none, Cond.methodLink RX7 140 yX7_checkChief, Cond.instanceMethod yX7_checkChief, Cond.selects RX7 yX7_checkChief yX7_checkChief, Cond.code yX7_checkChief cX7_checkChief 2 none, Cond.classLink RX7 207 "java/lang/IndexOutOfBoundsException", Cond.initialized "java/lang/IndexOutOfBoundsException", Cond.methodLink RX7 145 yX7_checkLives, Cond.instanceMethod yX7_checkLives, Cond.selects RX7 yX7_checkLives yX7_checkLives, Cond.code yX7_checkLives cX7_checkLives 2 none, Cond.fieldLink RX7 191 "FeastLedger$Chiefs" "lives" "[Z", Cond.methodLink RX7 123 yX7_debtsMadeBy, Cond.instanceMethod yX7_debtsMadeBy, Cond.selects RX7 yX7_debtsMadeBy yX7_debtsMadeBy, Cond.code yX7_debtsMadeBy cX7_debtsMadeBy 6 (some .int), Cond.methodLink RX7 275 Lib.MathLoose.min_long.x, Cond.static Lib.MathLoose.min_long.x, Cond.code Lib.MathLoose.min_long.x Lib.MathLoose.min_long.code 4 (some .long), Cond.methodLink RX7 271 yX3_owed, Cond.instanceMethod yX3_owed, Cond.selects RX3 yX3_owed yX3_owed]
def wsL_law0_r18 : List Cond := [Cond.code yX3_owed cX3_owed 6 (some .long), Cond.methodLink RX3 32 yX3_isOpenBetween, Cond.instanceMethod yX3_isOpenBetween, Cond.selects RX3 yX3_isOpenBetween yX3_isOpenBetween, Cond.code yX3_isOpenBetween cX3_isOpenBetween 4 (some .boolean), Cond.methodLink RX7 281 yX2_askedFor, Cond.instanceMethod yX2_askedFor, Cond.selects RX2 yX2_askedFor yX2_askedFor, Cond.code yX2_askedFor cX2_askedFor 7 (some .int), Cond.constantLong RX2 51 (1000000000), Cond.methodLink RX2 53 Lib.MathLoose.min_long.x, Cond.methodLink RX7 127 yX3_room, Cond.instanceMethod yX3_room, Cond.selects RX3 yX3_room yX3_room, Cond.code yX3_room cX3_room 1 (some .int), Cond.methodLink RX7 131 yX0_moveBlankets, Cond.instanceMethod yX0_moveBlankets, Cond.selects RX0 yX0_moveBlankets yX0_moveBlankets, Cond.code yX0_moveBlankets cX0_moveBlankets 4 none, Cond.methodLink RX7 134 yX7_recordGiven, Cond.instanceMethod yX7_recordGiven, Cond.selects RX7 yX7_recordGiven yX7_recordGiven, Cond.code yX7_recordGiven cX7_recordGiven 7 (some .int), Cond.fieldLink RX7 238 "FeastLedger$Chiefs" "fame" "[J"]
def wsL_law0_r19 : List Cond := [Cond.methodLink RX7 285 yX3_answer, Cond.instanceMethod yX3_answer, Cond.selects RX3 yX3_answer yX3_answer, Cond.code yX3_answer cX3_answer 8 (some .int), Cond.methodLink RX3 40 Lib.Math.min.name, Cond.methodLink RX3 36 yX3_firstToAnswer, Cond.instanceMethod yX3_firstToAnswer, Cond.selects RX3 yX3_firstToAnswer yX3_firstToAnswer, Cond.code yX3_firstToAnswer cX3_firstToAnswer 5 (some .int), Cond.methodLink RX3 45 yX3_turn, Cond.instanceMethod yX3_turn, Cond.selects RX3 yX3_turn yX3_turn, Cond.code yX3_turn cX3_turn 2 (some .int), Cond.constant RX3 49 (1000000), Cond.methodLink RX3 28 yX3_isLoan, Cond.instanceMethod yX3_isLoan, Cond.selects RX3 yX3_isLoan yX3_isLoan, Cond.code yX3_isLoan cX3_isLoan 2 (some .boolean), Cond.methodLink RX7 288 yX2_yearsToAnswer, Cond.instanceMethod yX2_yearsToAnswer, Cond.selects RX2 yX2_yearsToAnswer yX2_yearsToAnswer, Cond.code yX2_yearsToAnswer cX2_yearsToAnswer 2 (some .int), Cond.methodLink RX7 137 yX3_add, Cond.instanceMethod yX3_add]
def wsL_law0_r20 : List Cond := [Cond.selects RX3 yX3_add yX3_add, Cond.code yX3_add cX3_add 5 (some .int), Cond.methodLink RL 103 yX8_give, Cond.instanceMethod yX8_give, Cond.selects RX8 yX8_give yX8_give, Cond.code yX8_give cX8_give 4 (some .int), Cond.fieldLink RX8 160 "FeastLedgerModel" "debts" "I", Cond.methodLink RX8 187 yX8_isPair, Cond.instanceMethod yX8_isPair, Cond.selects RX8 yX8_isPair yX8_isPair, Cond.code yX8_isPair cX8_isPair 4 (some .boolean), Cond.methodLink RX8 184 yX8_isChief, Cond.instanceMethod yX8_isChief, Cond.selects RX8 yX8_isChief yX8_isChief, Cond.code yX8_isChief cX8_isChief 2 (some .boolean), Cond.methodLink RX8 172 yX8_madeOf, Cond.instanceMethod yX8_madeOf, Cond.selects RX8 yX8_madeOf yX8_madeOf, Cond.code yX8_madeOf cX8_madeOf 11 (some .long), Cond.constantLong RX8 170 (1000000000), Cond.methodLink RX8 163 yX8_allOwed, Cond.instanceMethod yX8_allOwed, Cond.selects RX8 yX8_allOwed yX8_allOwed, Cond.code yX8_allOwed cX8_allOwed 6 (some .long)]
def wsL_law0_r21 : List Cond := [Cond.methodLink RX8 167 yX8_term, Cond.instanceMethod yX8_term, Cond.selects RX8 yX8_term yX8_term, Cond.code yX8_term cX8_term 3 (some .int), Cond.fieldLink RX8 157 "FeastLedgerModel" "now" "I", Cond.methodLink RX8 191 yX8_gives, Cond.instanceMethod yX8_gives, Cond.selects RX8 yX8_gives yX8_gives, Cond.code yX8_gives cX8_gives 11 (some .int), Cond.methodLink RX8 176 yX8_next, Cond.instanceMethod yX8_next, Cond.selects RX8 yX8_next yX8_next, Cond.code yX8_next cX8_next 5 (some .int), Cond.methodLink RX8 180 yX8_owe, Cond.instanceMethod yX8_owe, Cond.selects RX8 yX8_owe yX8_owe, Cond.code yX8_owe cX8_owe 7 none, Cond.methodLink RL 104 yL_lend, Cond.static yL_lend, Cond.codeWith yL_lend cL_lend 6 (some .int) [(0, 12, 15, 25), (0, 12, 19, 13), (0, 12, 23, 15)], Cond.methodLink RL 27 yX7_lend, Cond.instanceMethod yX7_lend, Cond.selects RX7 yX7_lend yX7_lend, Cond.code yX7_lend cX7_lend 4 (some .int)]
def wsL_law0_r22 : List Cond := [Cond.methodLink RL 106 yX8_lend, Cond.instanceMethod yX8_lend, Cond.selects RX8 yX8_lend yX8_lend, Cond.code yX8_lend cX8_lend 4 (some .int), Cond.methodLink RL 107 yL_copper, Cond.static yL_copper, Cond.codeWith yL_copper cL_copper 5 (some .int) [(0, 10, 13, 25), (0, 10, 17, 13), (0, 10, 21, 15)], Cond.methodLink RL 30 yX7_copper, Cond.instanceMethod yX7_copper, Cond.selects RX7 yX7_copper yX7_copper, Cond.code yX7_copper cX7_copper 3 (some .int), Cond.fieldLink RX7 148 "FeastLedger$Coppers" "size" "I", Cond.methodLink RX7 151 yX1_add, Cond.instanceMethod yX1_add, Cond.selects RX1 yX1_add yX1_add, Cond.code yX1_add cX1_add 3 (some .int), Cond.methodLink RL 109 yX8_copper, Cond.instanceMethod yX8_copper, Cond.selects RX8 yX8_copper yX8_copper, Cond.code yX8_copper cX8_copper 3 (some .int), Cond.fieldLink RX8 195 "FeastLedgerModel" "coppers" "I", Cond.methodLink RL 110 yL_pass, Cond.static yL_pass, Cond.codeWith yL_pass cL_pass 5 (some .int) [(0, 10, 13, 25), (0, 10, 17, 13), (0, 10, 21, 15)]]
def wsL_law0_r23 : List Cond := [Cond.methodLink RL 33 yX7_pass, Cond.instanceMethod yX7_pass, Cond.selects RX7 yX7_pass yX7_pass, Cond.code yX7_pass cX7_pass 5 (some .int), Cond.fieldLink RX7 157 "FeastLedger$Coppers" "owner" "[I", Cond.fieldLink RX7 162 "FeastLedger$Coppers" "worth" "[I", Cond.methodLink RX7 154 yX7_checkCopper, Cond.instanceMethod yX7_checkCopper, Cond.selects RX7 yX7_checkCopper yX7_checkCopper, Cond.code yX7_checkCopper cX7_checkCopper 2 none, Cond.methodLink RL 112 yX8_pass, Cond.instanceMethod yX8_pass, Cond.selects RX8 yX8_pass yX8_pass, Cond.code yX8_pass cX8_pass 4 (some .int), Cond.methodLink RX8 198 yX8_isCopper, Cond.instanceMethod yX8_isCopper, Cond.selects RX8 yX8_isCopper yX8_isCopper, Cond.code yX8_isCopper cX8_isCopper 2 (some .boolean), Cond.methodLink RL 113 yL_breaks, Cond.static yL_breaks, Cond.codeWith yL_breaks cL_breaks 4 (some .int) [(0, 9, 12, 25)], Cond.methodLink RL 36 yX7_breaks, Cond.instanceMethod yX7_breaks, Cond.selects RX7 yX7_breaks yX7_breaks]
def wsL_law0_r24 : List Cond := [Cond.code yX7_breaks cX7_breaks 2 (some .int), Cond.methodLink RX7 165 yX1_breakOff, Cond.instanceMethod yX1_breakOff, Cond.selects RX1 yX1_breakOff yX1_breakOff, Cond.code yX1_breakOff cX1_breakOff 3 (some .int), Cond.methodLink RX1 25 Lib.Math.max.name, Cond.static Lib.Math.max.name, Cond.code Lib.Math.max.name Lib.Math.max.code 2 (some .int), Cond.methodLink RL 115 yX8_breaks, Cond.instanceMethod yX8_breaks, Cond.selects RX8 yX8_breaks yX8_breaks, Cond.code yX8_breaks cX8_breaks 3 (some .int), Cond.methodLink RL 116 yL_copperTold, Cond.static yL_copperTold, Cond.codeWith yL_copperTold cL_copperTold 5 (some .int) [(0, 10, 13, 25), (0, 10, 17, 13)], Cond.methodLink RL 39 yX7_copperTold, Cond.instanceMethod yX7_copperTold, Cond.selects RX7 yX7_copperTold yX7_copperTold, Cond.code yX7_copperTold cX7_copperTold 3 (some .int), Cond.methodLink RL 118 yX8_copperTold, Cond.instanceMethod yX8_copperTold, Cond.selects RX8 yX8_copperTold yX8_copperTold, Cond.code yX8_copperTold cX8_copperTold 3 (some .int), Cond.methodLink RL 119 yL_feast]
def wsL_law0_r25 : List Cond := [Cond.static yL_feast, Cond.codeWith yL_feast cL_feast 7 (some .int) [(0, 14, 17, 25), (0, 14, 21, 13), (0, 14, 25, 15)], Cond.methodLink RL 42 yX7_feast, Cond.instanceMethod yX7_feast, Cond.selects RX7 yX7_feast yX7_feast, Cond.code yX7_feast cX7_feast 8 (some .int), Cond.methodLink RX7 170 yX7_checkFeast, Cond.instanceMethod yX7_checkFeast, Cond.selects RX7 yX7_checkFeast yX7_checkFeast, Cond.code yX7_checkFeast cX7_checkFeast 7 none, Cond.constant RX7 268 (100000), Cond.methodLink RX7 185 yX7_isIn, Cond.static yX7_isIn, Cond.code yX7_isIn cX7_isIn 2 (some .boolean), Cond.methodLink RX7 174 yX2_witnessShare, Cond.instanceMethod yX2_witnessShare, Cond.selects RX2 yX2_witnessShare yX2_witnessShare, Cond.code yX2_witnessShare cX2_witnessShare 2 (some .int), Cond.methodLink RX7 177 yJ6_bitCount_0f7a4, Cond.static yJ6_bitCount_0f7a4, Cond.initialized RJ6, Cond.code yJ6_bitCount_0f7a4 cJ6_bitCount_0f7a4 1 (some .int), Cond.constant RJ6 265 (1431655765), Cond.constant RJ6 266 (858993459)]
def wsL_law0_r26 : List Cond := [Cond.constant RJ6 267 (252645135), Cond.methodLink RX7 182 yX7_debtsMadeByFeast, Cond.instanceMethod yX7_debtsMadeByFeast, Cond.selects RX7 yX7_debtsMadeByFeast yX7_debtsMadeByFeast, Cond.code yX7_debtsMadeByFeast cX7_debtsMadeByFeast 6 (some .int), Cond.methodLink RL 122 yX8_feast, Cond.instanceMethod yX8_feast, Cond.selects RX8 yX8_feast yX8_feast, Cond.code yX8_feast cX8_feast 12 (some .int), Cond.constant RX8 205 (100000), Cond.methodLink RX8 201 yX8_isIn, Cond.static yX8_isIn, Cond.code yX8_isIn cX8_isIn 2 (some .boolean), Cond.methodLink RL 123 yL_died, Cond.static yL_died, Cond.codeWith yL_died cL_died 5 (some .int) [(0, 10, 13, 25), (0, 10, 17, 13), (0, 10, 21, 15)], Cond.methodLink RL 46 yX7_died, Cond.instanceMethod yX7_died, Cond.selects RX7 yX7_died yX7_died, Cond.code yX7_died cX7_died 3 (some .int), Cond.methodLink RX7 195 yX1_inherit, Cond.instanceMethod yX1_inherit, Cond.selects RX1 yX1_inherit yX1_inherit, Cond.code yX1_inherit cX1_inherit 4 none]
def wsL_law0_r27 : List Cond := [Cond.methodLink RX7 199 yX3_inherit, Cond.instanceMethod yX3_inherit, Cond.selects RX3 yX3_inherit yX3_inherit, Cond.code yX3_inherit cX3_inherit 5 (some .int), Cond.methodLink RL 125 yX8_died, Cond.instanceMethod yX8_died, Cond.selects RX8 yX8_died yX8_died, Cond.code yX8_died cX8_died 5 (some .int), Cond.methodLink RL 126 yL_wait, Cond.static yL_wait, Cond.codeWith yL_wait cL_wait 4 (some .int) [(0, 9, 12, 13)], Cond.methodLink RL 49 yX7_wait, Cond.instanceMethod yX7_wait, Cond.selects RX7 yX7_wait yX7_wait, Cond.code yX7_wait cX7_wait 3 (some .int), Cond.methodLink RX7 203 yX7_growLoans, Cond.instanceMethod yX7_growLoans, Cond.selects RX7 yX7_growLoans yX7_growLoans, Cond.code yX7_growLoans cX7_growLoans 3 none, Cond.fieldLink RX7 206 "FeastLedger$Debts" "size" "I", Cond.fieldLink RX7 218 "FeastLedger$Debts" "left" "[I", Cond.methodLink RX7 221 yX3_isLoan, Cond.methodLink RX7 291 yX2_grown, Cond.instanceMethod yX2_grown]
def wsL_law0_r28 : List Cond := [Cond.selects RX2 yX2_grown yX2_grown, Cond.code yX2_grown cX2_grown 6 (some .int), Cond.methodLink RL 128 yX8_wait, Cond.instanceMethod yX8_wait, Cond.selects RX8 yX8_wait yX8_wait, Cond.code yX8_wait cX8_wait 6 (some .int), Cond.methodLink RL 129 yL_debt, Cond.static yL_debt, Cond.codeWith yL_debt cL_debt 5 (some .int) [(0, 10, 13, 25), (0, 10, 17, 13)], Cond.methodLink RL 52 yX7_debt, Cond.instanceMethod yX7_debt, Cond.selects RX7 yX7_debt yX7_debt, Cond.code yX7_debt cX7_debt 3 (some .int), Cond.fieldLink RX7 212 "FeastLedger$Debts" "debtor" "[I", Cond.fieldLink RX7 215 "FeastLedger$Debts" "creditor" "[I", Cond.fieldLink RX7 225 "FeastLedger$Debts" "due" "[I", Cond.methodLink RL 131 yX8_debt, Cond.instanceMethod yX8_debt, Cond.selects RX8 yX8_debt yX8_debt, Cond.code yX8_debt cX8_debt 3 (some .int), Cond.methodLink RL 132 yX7_late, Cond.instanceMethod yX7_late, Cond.selects RX7 yX7_late yX7_late, Cond.code yX7_late cX7_late 2 (some .int)]
def wsL_law0_r29 : List Cond := [Cond.methodLink RX7 230 yX3_overdue, Cond.instanceMethod yX3_overdue, Cond.selects RX3 yX3_overdue yX3_overdue, Cond.code yX3_overdue cX3_overdue 5 (some .int), Cond.methodLink RL 135 yX8_late, Cond.instanceMethod yX8_late, Cond.selects RX8 yX8_late yX8_late, Cond.code yX8_late cX8_late 4 (some .int), Cond.methodLink RL 136 yL_about, Cond.static yL_about, Cond.codeWith yL_about cL_about 5 (some .int) [(0, 10, 13, 25), (0, 10, 17, 13)], Cond.methodLink RL 55 yX7_about, Cond.instanceMethod yX7_about, Cond.selects RX7 yX7_about yX7_about, Cond.code yX7_about cX7_about 3 (some .int), Cond.methodLink RX7 233 yX0_placeInRank, Cond.instanceMethod yX0_placeInRank, Cond.selects RX0 yX0_placeInRank yX0_placeInRank, Cond.code yX0_placeInRank cX0_placeInRank 5 (some .int), Cond.methodLink RL 138 yX8_about, Cond.instanceMethod yX8_about, Cond.selects RX8 yX8_about yX8_about, Cond.code yX8_about cX8_about 5 (some .int), Cond.methodLink RL 139 yL_fame]
def wsL_law0_r30 : List Cond := [Cond.static yL_fame, Cond.codeWith yL_fame cL_fame 4 (some .int) [(0, 8, 11, 25)], Cond.methodLink RL 58 yX7_fame, Cond.instanceMethod yX7_fame, Cond.selects RX7 yX7_fame yX7_fame, Cond.code yX7_fame cX7_fame 2 (some .long), Cond.methodLink RL 141 yX8_fame, Cond.instanceMethod yX8_fame, Cond.selects RX8 yX8_fame yX8_fame, Cond.code yX8_fame cX8_fame 2 (some .long), Cond.methodLink RL 142 yL_gather, Cond.static yL_gather, Cond.codeWith yL_gather cL_gather 5 (some .int) [(0, 9, 12, 25)], Cond.methodLink RL 62 yX7_gather, Cond.instanceMethod yX7_gather, Cond.selects RX7 yX7_gather yX7_gather, Cond.code yX7_gather cX7_gather 3 (some .long), Cond.constantLong RX7 242 (-1), Cond.methodLink RX7 244 yX4_callIn, Cond.instanceMethod yX4_callIn, Cond.selects RX4 yX4_callIn yX4_callIn, Cond.code yX4_callIn cX4_callIn 6 none, Cond.fieldLink RX4 31 "FeastLedger$Chiefs" "blankets" "[I", Cond.fieldLink RX4 36 "FeastLedger$Debts" "size" "I"]
def wsL_law0_r31 : List Cond := [Cond.fieldLink RX4 46 "FeastLedger$Debts" "due" "[I", Cond.fieldLink RX4 49 "FeastLedger$Debts" "debtor" "[I", Cond.fieldLink RX4 52 "FeastLedger$Debts" "creditor" "[I", Cond.fieldLink RX4 55 "FeastLedger$Debts" "left" "[I", Cond.methodLink RX4 42 yX3_isLoan, Cond.methodLink RX7 248 yX4_most, Cond.instanceMethod yX4_most, Cond.selects RX4 yX4_most yX4_most, Cond.code yX4_most cX4_most 6 (some .long), Cond.methodLink RX4 58 yX4_nearestGiver, Cond.instanceMethod yX4_nearestGiver, Cond.selects RX4 yX4_nearestGiver yX4_nearestGiver, Cond.code yX4_nearestGiver cX4_nearestGiver 6 (some .int), Cond.methodLink RX4 62 yX4_handOn, Cond.instanceMethod yX4_handOn, Cond.selects RX4 yX4_handOn yX4_handOn, Cond.code yX4_handOn cX4_handOn 7 (some .long), Cond.methodLink RX4 66 Lib.MathLoose.min_long.x, Cond.methodLink RL 144 yX8_gather, Cond.instanceMethod yX8_gather, Cond.selects RX8 yX8_gather yX8_gather, Cond.code yX8_gather cX8_gather 3 (some .long), Cond.constantLong RX8 212 (-1), Cond.methodLink RX8 214 yX8_gathers]
def wsL_law0_r32 : List Cond := [Cond.instanceMethod yX8_gathers, Cond.selects RX8 yX8_gathers yX8_gathers, Cond.code yX8_gathers cX8_gathers 11 (some .long), Cond.fieldLink RX8 206 "FeastLedgerModel" "seen" "I", Cond.methodLink RX8 209 yX8_ways, Cond.instanceMethod yX8_ways, Cond.selects RX8 yX8_ways yX8_ways, Cond.code yX8_ways cX8_ways 4 none, Cond.methodLink RL 145 yL_hold, Cond.static yL_hold, Cond.codeWith yL_hold cL_hold 5 (some .int) [(0, 10, 13, 25)], Cond.methodLink RL 66 yX7_hold, Cond.instanceMethod yX7_hold, Cond.selects RX7 yX7_hold yX7_hold, Cond.code yX7_hold cX7_hold 3 (some .int), Cond.methodLink RX7 252 yX4_side, Cond.instanceMethod yX4_side, Cond.selects RX4 yX4_side yX4_side, Cond.code yX4_side cX4_side 3 (some .int), Cond.methodLink RL 147 yX8_hold, Cond.instanceMethod yX8_hold, Cond.selects RX8 yX8_hold yX8_hold, Cond.code yX8_hold cX8_hold 7 (some .int), Cond.methodLink RL 148 yX7_count]
def wsL_law0_r33 : List Cond := [Cond.instanceMethod yX7_count, Cond.selects RX7 yX7_count yX7_count, Cond.code yX7_count cX7_count 2 (some .int), Cond.methodLink RX7 255 yX3_open, Cond.instanceMethod yX3_open, Cond.selects RX3 yX3_open yX3_open, Cond.code yX3_open cX3_open 3 (some .int), Cond.methodLink RL 151 yX8_count, Cond.instanceMethod yX8_count, Cond.selects RX8 yX8_count yX8_count, Cond.code yX8_count cX8_count 4 (some .int)]
def wsL_law0 : List Cond := (wsL_law0_r1 ++ (wsL_law0_r2 ++ (wsL_law0_r3 ++ (wsL_law0_r4 ++ (wsL_law0_r5 ++ (wsL_law0_r6 ++ (wsL_law0_r7 ++ (wsL_law0_r8 ++ (wsL_law0_r9 ++ (wsL_law0_r10 ++ (wsL_law0_r11 ++ (wsL_law0_r12 ++ (wsL_law0_r13 ++ (wsL_law0_r14 ++ (wsL_law0_r15 ++ (wsL_law0_r16 ++ (wsL_law0_r17 ++ (wsL_law0_r18 ++ (wsL_law0_r19 ++ (wsL_law0_r20 ++ (wsL_law0_r21 ++ (wsL_law0_r22 ++ (wsL_law0_r23 ++ (wsL_law0_r24 ++ (wsL_law0_r25 ++ (wsL_law0_r26 ++ (wsL_law0_r27 ++ (wsL_law0_r28 ++ (wsL_law0_r29 ++ (wsL_law0_r30 ++ (wsL_law0_r31 ++ (wsL_law0_r32 ++ wsL_law0_r33)))))))))))))))))))))))))))))))) ++ wsX70 ++ wsX80 ++ wsX50 ++ wsX60 ++ wsX20 ++ wsX00 ++ wsX30 ++ wsX10 ++ wsX40 ++ ([] : List Cond)
def wsL_law : List Cond := wsL_law0 ++ (vx_atS RX7 70 "java/lang/IllegalArgumentException" ["java/lang/RuntimeException", "java/lang/Exception"]).filter goodWord ++ (vx_atS RX7 80 "java/lang/IllegalStateException" ["java/lang/RuntimeException", "java/lang/Exception"]).filter goodWord ++ (vx_atS RX7 211 "java/lang/IndexOutOfBoundsException" ["java/lang/RuntimeException", "java/lang/Exception"]).filter goodWord
end
section
theorem dX0_init_0 : decode cX0_init 0 = .ok (.aload_n 0, 1) := by decide +kernel
theorem dX0_init_1 : decode cX0_init 1 = .ok (.invokespecial 3, 3) := by decide +kernel
theorem dX0_init_4 : decode cX0_init 4 = .ok (.aload_n 0, 1) := by decide +kernel
theorem dX0_init_5 : decode cX0_init 5 = .ok (.bipush 12, 2) := by decide +kernel
theorem dX0_init_7 : decode cX0_init 7 = .ok (.newarray .int, 2) := by decide +kernel
theorem dX0_init_9 : decode cX0_init 9 = .ok (.putfield 9, 3) := by decide +kernel
theorem dX0_init_12 : decode cX0_init 12 = .ok (.aload_n 0, 1) := by decide +kernel
theorem dX0_init_13 : decode cX0_init 13 = .ok (.bipush 12, 2) := by decide +kernel
theorem dX0_init_15 : decode cX0_init 15 = .ok (.newarray .long, 2) := by decide +kernel
theorem dX0_init_17 : decode cX0_init 17 = .ok (.putfield 15, 3) := by decide +kernel
theorem dX0_init_20 : decode cX0_init 20 = .ok (.aload_n 0, 1) := by decide +kernel
theorem dX0_init_21 : decode cX0_init 21 = .ok (.bipush 12, 2) := by decide +kernel
theorem dX0_init_23 : decode cX0_init 23 = .ok (.newarray .boolean, 2) := by decide +kernel
theorem dX0_init_25 : decode cX0_init 25 = .ok (.putfield 19, 3) := by decide +kernel
theorem dX0_init_28 : decode cX0_init 28 = .ok (.aload_n 0, 1) := by decide +kernel
theorem dX0_init_29 : decode cX0_init 29 = .ok (.iconst 0, 1) := by decide +kernel
theorem dX0_init_30 : decode cX0_init 30 = .ok (.putfield 23, 3) := by decide +kernel
theorem dX0_init_33 : decode cX0_init 33 = .ok (.return_, 1) := by decide +kernel
theorem dX0_add_0 : decode cX0_add 0 = .ok (.aload_n 0, 1) := by decide +kernel
theorem dX0_add_1 : decode cX0_add 1 = .ok (.getfield 9, 3) := by decide +kernel
theorem dX0_add_4 : decode cX0_add 4 = .ok (.aload_n 0, 1) := by decide +kernel
theorem dX0_add_5 : decode cX0_add 5 = .ok (.getfield 23, 3) := by decide +kernel
theorem dX0_add_8 : decode cX0_add 8 = .ok (.iload_n 1, 1) := by decide +kernel
theorem dX0_add_9 : decode cX0_add 9 = .ok (.iastore, 1) := by decide +kernel
theorem dX0_add_10 : decode cX0_add 10 = .ok (.aload_n 0, 1) := by decide +kernel
theorem dX0_add_11 : decode cX0_add 11 = .ok (.getfield 19, 3) := by decide +kernel
theorem dX0_add_14 : decode cX0_add 14 = .ok (.aload_n 0, 1) := by decide +kernel
theorem dX0_add_15 : decode cX0_add 15 = .ok (.getfield 23, 3) := by decide +kernel
theorem dX0_add_18 : decode cX0_add 18 = .ok (.iconst 1, 1) := by decide +kernel
theorem dX0_add_19 : decode cX0_add 19 = .ok (.bastore, 1) := by decide +kernel
theorem dX0_add_20 : decode cX0_add 20 = .ok (.aload_n 0, 1) := by decide +kernel
theorem dX0_add_21 : decode cX0_add 21 = .ok (.dup, 1) := by decide +kernel
theorem dX0_add_22 : decode cX0_add 22 = .ok (.getfield 23, 3) := by decide +kernel
theorem dX0_add_25 : decode cX0_add 25 = .ok (.iconst 1, 1) := by decide +kernel
theorem dX0_add_26 : decode cX0_add 26 = .ok (.iadd, 1) := by decide +kernel
theorem dX0_add_27 : decode cX0_add 27 = .ok (.putfield 23, 3) := by decide +kernel
theorem dX0_add_30 : decode cX0_add 30 = .ok (.aload_n 0, 1) := by decide +kernel
theorem dX0_add_31 : decode cX0_add 31 = .ok (.getfield 23, 3) := by decide +kernel
theorem dX0_add_34 : decode cX0_add 34 = .ok (.iconst 1, 1) := by decide +kernel
theorem dX0_add_35 : decode cX0_add 35 = .ok (.isub, 1) := by decide +kernel
theorem dX0_add_36 : decode cX0_add 36 = .ok (.ireturn, 1) := by decide +kernel
theorem dX0_moveBlankets_0 : decode cX0_moveBlankets 0 = .ok (.aload_n 0, 1) := by decide +kernel
theorem dX0_moveBlankets_1 : decode cX0_moveBlankets 1 = .ok (.getfield 9, 3) := by decide +kernel
theorem dX0_moveBlankets_4 : decode cX0_moveBlankets 4 = .ok (.iload_n 1, 1) := by decide +kernel
theorem dX0_moveBlankets_5 : decode cX0_moveBlankets 5 = .ok (.dup2, 1) := by decide +kernel
theorem dX0_moveBlankets_6 : decode cX0_moveBlankets 6 = .ok (.iaload, 1) := by decide +kernel
theorem dX0_moveBlankets_7 : decode cX0_moveBlankets 7 = .ok (.iload_n 3, 1) := by decide +kernel
theorem dX0_moveBlankets_8 : decode cX0_moveBlankets 8 = .ok (.isub, 1) := by decide +kernel
theorem dX0_moveBlankets_9 : decode cX0_moveBlankets 9 = .ok (.iastore, 1) := by decide +kernel
theorem dX0_moveBlankets_10 : decode cX0_moveBlankets 10 = .ok (.aload_n 0, 1) := by decide +kernel
theorem dX0_moveBlankets_11 : decode cX0_moveBlankets 11 = .ok (.getfield 9, 3) := by decide +kernel
theorem dX0_moveBlankets_14 : decode cX0_moveBlankets 14 = .ok (.iload_n 2, 1) := by decide +kernel
theorem dX0_moveBlankets_15 : decode cX0_moveBlankets 15 = .ok (.dup2, 1) := by decide +kernel
theorem dX0_moveBlankets_16 : decode cX0_moveBlankets 16 = .ok (.iaload, 1) := by decide +kernel
theorem dX0_moveBlankets_17 : decode cX0_moveBlankets 17 = .ok (.iload_n 3, 1) := by decide +kernel
theorem dX0_moveBlankets_18 : decode cX0_moveBlankets 18 = .ok (.iadd, 1) := by decide +kernel
theorem dX0_moveBlankets_19 : decode cX0_moveBlankets 19 = .ok (.iastore, 1) := by decide +kernel
theorem dX0_moveBlankets_20 : decode cX0_moveBlankets 20 = .ok (.return_, 1) := by decide +kernel
theorem dX0_placeInRank_0 : decode cX0_placeInRank 0 = .ok (.aload_n 0, 1) := by decide +kernel
theorem dX0_placeInRank_1 : decode cX0_placeInRank 1 = .ok (.getfield 19, 3) := by decide +kernel
theorem dX0_placeInRank_4 : decode cX0_placeInRank 4 = .ok (.iload_n 1, 1) := by decide +kernel
theorem dX0_placeInRank_5 : decode cX0_placeInRank 5 = .ok (.baload, 1) := by decide +kernel
theorem dX0_placeInRank_6 : decode cX0_placeInRank 6 = .ok (.ifCond .ne 5, 3) := by decide +kernel
theorem dX0_placeInRank_9 : decode cX0_placeInRank 9 = .ok (.iconst (-1), 1) := by decide +kernel
theorem dX0_placeInRank_10 : decode cX0_placeInRank 10 = .ok (.ireturn, 1) := by decide +kernel
theorem dX0_placeInRank_11 : decode cX0_placeInRank 11 = .ok (.iconst 0, 1) := by decide +kernel
theorem dX0_placeInRank_12 : decode cX0_placeInRank 12 = .ok (.istore_n 2, 1) := by decide +kernel
theorem dX0_placeInRank_13 : decode cX0_placeInRank 13 = .ok (.iconst 0, 1) := by decide +kernel
theorem dX0_placeInRank_14 : decode cX0_placeInRank 14 = .ok (.istore_n 3, 1) := by decide +kernel
theorem dX0_placeInRank_15 : decode cX0_placeInRank 15 = .ok (.iload_n 3, 1) := by decide +kernel
theorem dX0_placeInRank_16 : decode cX0_placeInRank 16 = .ok (.aload_n 0, 1) := by decide +kernel
theorem dX0_placeInRank_17 : decode cX0_placeInRank 17 = .ok (.getfield 23, 3) := by decide +kernel
theorem dX0_placeInRank_20 : decode cX0_placeInRank 20 = .ok (.if_icmp .ge 70, 3) := by decide +kernel
theorem dX0_placeInRank_23 : decode cX0_placeInRank 23 = .ok (.aload_n 0, 1) := by decide +kernel
theorem dX0_placeInRank_24 : decode cX0_placeInRank 24 = .ok (.getfield 15, 3) := by decide +kernel
theorem dX0_placeInRank_27 : decode cX0_placeInRank 27 = .ok (.iload_n 3, 1) := by decide +kernel
theorem dX0_placeInRank_28 : decode cX0_placeInRank 28 = .ok (.laload, 1) := by decide +kernel
theorem dX0_placeInRank_29 : decode cX0_placeInRank 29 = .ok (.aload_n 0, 1) := by decide +kernel
theorem dX0_placeInRank_30 : decode cX0_placeInRank 30 = .ok (.getfield 15, 3) := by decide +kernel
theorem dX0_placeInRank_33 : decode cX0_placeInRank 33 = .ok (.iload_n 1, 1) := by decide +kernel
theorem dX0_placeInRank_34 : decode cX0_placeInRank 34 = .ok (.laload, 1) := by decide +kernel
theorem dX0_placeInRank_35 : decode cX0_placeInRank 35 = .ok (.lcmp, 1) := by decide +kernel
theorem dX0_placeInRank_36 : decode cX0_placeInRank 36 = .ok (.ifCond .gt 24, 3) := by decide +kernel
theorem dX0_placeInRank_39 : decode cX0_placeInRank 39 = .ok (.aload_n 0, 1) := by decide +kernel
theorem dX0_placeInRank_40 : decode cX0_placeInRank 40 = .ok (.getfield 15, 3) := by decide +kernel
theorem dX0_placeInRank_43 : decode cX0_placeInRank 43 = .ok (.iload_n 3, 1) := by decide +kernel
theorem dX0_placeInRank_44 : decode cX0_placeInRank 44 = .ok (.laload, 1) := by decide +kernel
theorem dX0_placeInRank_45 : decode cX0_placeInRank 45 = .ok (.aload_n 0, 1) := by decide +kernel
theorem dX0_placeInRank_46 : decode cX0_placeInRank 46 = .ok (.getfield 15, 3) := by decide +kernel
theorem dX0_placeInRank_49 : decode cX0_placeInRank 49 = .ok (.iload_n 1, 1) := by decide +kernel
theorem dX0_placeInRank_50 : decode cX0_placeInRank 50 = .ok (.laload, 1) := by decide +kernel
theorem dX0_placeInRank_51 : decode cX0_placeInRank 51 = .ok (.lcmp, 1) := by decide +kernel
theorem dX0_placeInRank_52 : decode cX0_placeInRank 52 = .ok (.ifCond .ne 12, 3) := by decide +kernel
theorem dX0_placeInRank_55 : decode cX0_placeInRank 55 = .ok (.iload_n 3, 1) := by decide +kernel
theorem dX0_placeInRank_56 : decode cX0_placeInRank 56 = .ok (.iload_n 1, 1) := by decide +kernel
theorem dX0_placeInRank_57 : decode cX0_placeInRank 57 = .ok (.if_icmp .ge 7, 3) := by decide +kernel
theorem dX0_placeInRank_60 : decode cX0_placeInRank 60 = .ok (.iconst 1, 1) := by decide +kernel
theorem dX0_placeInRank_61 : decode cX0_placeInRank 61 = .ok (.goto 4, 3) := by decide +kernel
theorem dX0_placeInRank_64 : decode cX0_placeInRank 64 = .ok (.iconst 0, 1) := by decide +kernel
theorem dX0_placeInRank_65 : decode cX0_placeInRank 65 = .ok (.istore 4, 2) := by decide +kernel
theorem dX0_placeInRank_67 : decode cX0_placeInRank 67 = .ok (.aload_n 0, 1) := by decide +kernel
theorem dX0_placeInRank_68 : decode cX0_placeInRank 68 = .ok (.getfield 19, 3) := by decide +kernel
theorem dX0_placeInRank_71 : decode cX0_placeInRank 71 = .ok (.iload_n 3, 1) := by decide +kernel
theorem dX0_placeInRank_72 : decode cX0_placeInRank 72 = .ok (.baload, 1) := by decide +kernel
theorem dX0_placeInRank_73 : decode cX0_placeInRank 73 = .ok (.ifCond .eq 11, 3) := by decide +kernel
theorem dX0_placeInRank_76 : decode cX0_placeInRank 76 = .ok (.iload 4, 2) := by decide +kernel
theorem dX0_placeInRank_78 : decode cX0_placeInRank 78 = .ok (.ifCond .eq 6, 3) := by decide +kernel
theorem dX0_placeInRank_81 : decode cX0_placeInRank 81 = .ok (.iinc 2 1, 3) := by decide +kernel
theorem dX0_placeInRank_84 : decode cX0_placeInRank 84 = .ok (.iinc 3 1, 3) := by decide +kernel
theorem dX0_placeInRank_87 : decode cX0_placeInRank 87 = .ok (.goto (-72), 3) := by decide +kernel
theorem dX0_placeInRank_90 : decode cX0_placeInRank 90 = .ok (.iload_n 2, 1) := by decide +kernel
theorem dX0_placeInRank_91 : decode cX0_placeInRank 91 = .ok (.ireturn, 1) := by decide +kernel
theorem dX1_init_0 : decode cX1_init 0 = .ok (.aload_n 0, 1) := by decide +kernel
theorem dX1_init_1 : decode cX1_init 1 = .ok (.invokespecial 3, 3) := by decide +kernel
theorem dX1_init_4 : decode cX1_init 4 = .ok (.aload_n 0, 1) := by decide +kernel
theorem dX1_init_5 : decode cX1_init 5 = .ok (.bipush 30, 2) := by decide +kernel
theorem dX1_init_7 : decode cX1_init 7 = .ok (.newarray .int, 2) := by decide +kernel
theorem dX1_init_9 : decode cX1_init 9 = .ok (.putfield 9, 3) := by decide +kernel
theorem dX1_init_12 : decode cX1_init 12 = .ok (.aload_n 0, 1) := by decide +kernel
theorem dX1_init_13 : decode cX1_init 13 = .ok (.bipush 30, 2) := by decide +kernel
theorem dX1_init_15 : decode cX1_init 15 = .ok (.newarray .int, 2) := by decide +kernel
theorem dX1_init_17 : decode cX1_init 17 = .ok (.putfield 15, 3) := by decide +kernel
theorem dX1_init_20 : decode cX1_init 20 = .ok (.aload_n 0, 1) := by decide +kernel
theorem dX1_init_21 : decode cX1_init 21 = .ok (.bipush 30, 2) := by decide +kernel
theorem dX1_init_23 : decode cX1_init 23 = .ok (.newarray .int, 2) := by decide +kernel
theorem dX1_init_25 : decode cX1_init 25 = .ok (.putfield 18, 3) := by decide +kernel
theorem dX1_init_28 : decode cX1_init 28 = .ok (.aload_n 0, 1) := by decide +kernel
theorem dX1_init_29 : decode cX1_init 29 = .ok (.iconst 0, 1) := by decide +kernel
theorem dX1_init_30 : decode cX1_init 30 = .ok (.putfield 21, 3) := by decide +kernel
theorem dX1_init_33 : decode cX1_init 33 = .ok (.return_, 1) := by decide +kernel
theorem dX1_add_0 : decode cX1_add 0 = .ok (.aload_n 0, 1) := by decide +kernel
theorem dX1_add_1 : decode cX1_add 1 = .ok (.getfield 9, 3) := by decide +kernel
theorem dX1_add_4 : decode cX1_add 4 = .ok (.aload_n 0, 1) := by decide +kernel
theorem dX1_add_5 : decode cX1_add 5 = .ok (.getfield 21, 3) := by decide +kernel
theorem dX1_add_8 : decode cX1_add 8 = .ok (.iload_n 1, 1) := by decide +kernel
theorem dX1_add_9 : decode cX1_add 9 = .ok (.iastore, 1) := by decide +kernel
theorem dX1_add_10 : decode cX1_add 10 = .ok (.aload_n 0, 1) := by decide +kernel
theorem dX1_add_11 : decode cX1_add 11 = .ok (.getfield 15, 3) := by decide +kernel
theorem dX1_add_14 : decode cX1_add 14 = .ok (.aload_n 0, 1) := by decide +kernel
theorem dX1_add_15 : decode cX1_add 15 = .ok (.getfield 21, 3) := by decide +kernel
theorem dX1_add_18 : decode cX1_add 18 = .ok (.iload_n 2, 1) := by decide +kernel
theorem dX1_add_19 : decode cX1_add 19 = .ok (.iastore, 1) := by decide +kernel
theorem dX1_add_20 : decode cX1_add 20 = .ok (.aload_n 0, 1) := by decide +kernel
theorem dX1_add_21 : decode cX1_add 21 = .ok (.getfield 18, 3) := by decide +kernel
theorem dX1_add_24 : decode cX1_add 24 = .ok (.aload_n 0, 1) := by decide +kernel
theorem dX1_add_25 : decode cX1_add 25 = .ok (.getfield 21, 3) := by decide +kernel
theorem dX1_add_28 : decode cX1_add 28 = .ok (.iload_n 2, 1) := by decide +kernel
theorem dX1_add_29 : decode cX1_add 29 = .ok (.iastore, 1) := by decide +kernel
theorem dX1_add_30 : decode cX1_add 30 = .ok (.aload_n 0, 1) := by decide +kernel
theorem dX1_add_31 : decode cX1_add 31 = .ok (.dup, 1) := by decide +kernel
theorem dX1_add_32 : decode cX1_add 32 = .ok (.getfield 21, 3) := by decide +kernel
theorem dX1_add_35 : decode cX1_add 35 = .ok (.iconst 1, 1) := by decide +kernel
theorem dX1_add_36 : decode cX1_add 36 = .ok (.iadd, 1) := by decide +kernel
theorem dX1_add_37 : decode cX1_add 37 = .ok (.putfield 21, 3) := by decide +kernel
theorem dX1_add_40 : decode cX1_add 40 = .ok (.aload_n 0, 1) := by decide +kernel
theorem dX1_add_41 : decode cX1_add 41 = .ok (.getfield 21, 3) := by decide +kernel
theorem dX1_add_44 : decode cX1_add 44 = .ok (.iconst 1, 1) := by decide +kernel
theorem dX1_add_45 : decode cX1_add 45 = .ok (.isub, 1) := by decide +kernel
theorem dX1_add_46 : decode cX1_add 46 = .ok (.ireturn, 1) := by decide +kernel
theorem dX1_breakOff_0 : decode cX1_breakOff 0 = .ok (.aload_n 0, 1) := by decide +kernel
theorem dX1_breakOff_1 : decode cX1_breakOff 1 = .ok (.getfield 15, 3) := by decide +kernel
theorem dX1_breakOff_4 : decode cX1_breakOff 4 = .ok (.iload_n 1, 1) := by decide +kernel
theorem dX1_breakOff_5 : decode cX1_breakOff 5 = .ok (.iaload, 1) := by decide +kernel
theorem dX1_breakOff_6 : decode cX1_breakOff 6 = .ok (.bipush 8, 2) := by decide +kernel
theorem dX1_breakOff_8 : decode cX1_breakOff 8 = .ok (.idiv, 1) := by decide +kernel
theorem dX1_breakOff_9 : decode cX1_breakOff 9 = .ok (.iconst 1, 1) := by decide +kernel
theorem dX1_breakOff_10 : decode cX1_breakOff 10 = .ok (.invokestatic 25, 3) := by decide +kernel
theorem dX1_breakOff_13 : decode cX1_breakOff 13 = .ok (.istore_n 2, 1) := by decide +kernel
theorem dX1_breakOff_14 : decode cX1_breakOff 14 = .ok (.aload_n 0, 1) := by decide +kernel
theorem dX1_breakOff_15 : decode cX1_breakOff 15 = .ok (.getfield 18, 3) := by decide +kernel
theorem dX1_breakOff_18 : decode cX1_breakOff 18 = .ok (.iload_n 1, 1) := by decide +kernel
theorem dX1_breakOff_19 : decode cX1_breakOff 19 = .ok (.aload_n 0, 1) := by decide +kernel
theorem dX1_breakOff_20 : decode cX1_breakOff 20 = .ok (.getfield 18, 3) := by decide +kernel
theorem dX1_breakOff_23 : decode cX1_breakOff 23 = .ok (.iload_n 1, 1) := by decide +kernel
theorem dX1_breakOff_24 : decode cX1_breakOff 24 = .ok (.iaload, 1) := by decide +kernel
theorem dX1_breakOff_25 : decode cX1_breakOff 25 = .ok (.iload_n 2, 1) := by decide +kernel
theorem dX1_breakOff_26 : decode cX1_breakOff 26 = .ok (.isub, 1) := by decide +kernel
theorem dX1_breakOff_27 : decode cX1_breakOff 27 = .ok (.iconst 0, 1) := by decide +kernel
theorem dX1_breakOff_28 : decode cX1_breakOff 28 = .ok (.invokestatic 25, 3) := by decide +kernel
theorem dX1_breakOff_31 : decode cX1_breakOff 31 = .ok (.iastore, 1) := by decide +kernel
theorem dX1_breakOff_32 : decode cX1_breakOff 32 = .ok (.aload_n 0, 1) := by decide +kernel
theorem dX1_breakOff_33 : decode cX1_breakOff 33 = .ok (.getfield 18, 3) := by decide +kernel
theorem dX1_breakOff_36 : decode cX1_breakOff 36 = .ok (.iload_n 1, 1) := by decide +kernel
theorem dX1_breakOff_37 : decode cX1_breakOff 37 = .ok (.iaload, 1) := by decide +kernel
theorem dX1_breakOff_38 : decode cX1_breakOff 38 = .ok (.ireturn, 1) := by decide +kernel
theorem dX1_inherit_0 : decode cX1_inherit 0 = .ok (.iconst 0, 1) := by decide +kernel
theorem dX1_inherit_1 : decode cX1_inherit 1 = .ok (.istore_n 3, 1) := by decide +kernel
theorem dX1_inherit_2 : decode cX1_inherit 2 = .ok (.iload_n 3, 1) := by decide +kernel
theorem dX1_inherit_3 : decode cX1_inherit 3 = .ok (.aload_n 0, 1) := by decide +kernel
theorem dX1_inherit_4 : decode cX1_inherit 4 = .ok (.getfield 21, 3) := by decide +kernel
theorem dX1_inherit_7 : decode cX1_inherit 7 = .ok (.if_icmp .ge 26, 3) := by decide +kernel
theorem dX1_inherit_10 : decode cX1_inherit 10 = .ok (.aload_n 0, 1) := by decide +kernel
theorem dX1_inherit_11 : decode cX1_inherit 11 = .ok (.getfield 9, 3) := by decide +kernel
theorem dX1_inherit_14 : decode cX1_inherit 14 = .ok (.iload_n 3, 1) := by decide +kernel
theorem dX1_inherit_15 : decode cX1_inherit 15 = .ok (.iaload, 1) := by decide +kernel
theorem dX1_inherit_16 : decode cX1_inherit 16 = .ok (.iload_n 1, 1) := by decide +kernel
theorem dX1_inherit_17 : decode cX1_inherit 17 = .ok (.if_icmp .ne 10, 3) := by decide +kernel
theorem dX1_inherit_20 : decode cX1_inherit 20 = .ok (.aload_n 0, 1) := by decide +kernel
theorem dX1_inherit_21 : decode cX1_inherit 21 = .ok (.getfield 9, 3) := by decide +kernel
theorem dX1_inherit_24 : decode cX1_inherit 24 = .ok (.iload_n 3, 1) := by decide +kernel
theorem dX1_inherit_25 : decode cX1_inherit 25 = .ok (.iload_n 2, 1) := by decide +kernel
theorem dX1_inherit_26 : decode cX1_inherit 26 = .ok (.iastore, 1) := by decide +kernel
theorem dX1_inherit_27 : decode cX1_inherit 27 = .ok (.iinc 3 1, 3) := by decide +kernel
theorem dX1_inherit_30 : decode cX1_inherit 30 = .ok (.goto (-28), 3) := by decide +kernel
theorem dX1_inherit_33 : decode cX1_inherit 33 = .ok (.return_, 1) := by decide +kernel
theorem dX2_init_0 : decode cX2_init 0 = .ok (.aload_n 0, 1) := by decide +kernel
theorem dX2_init_1 : decode cX2_init 1 = .ok (.invokespecial 3, 3) := by decide +kernel
theorem dX2_init_4 : decode cX2_init 4 = .ok (.aload_n 0, 1) := by decide +kernel
theorem dX2_init_5 : decode cX2_init 5 = .ok (.bipush 20, 2) := by decide +kernel
theorem dX2_init_7 : decode cX2_init 7 = .ok (.newarray .int, 2) := by decide +kernel
theorem dX2_init_9 : decode cX2_init 9 = .ok (.putfield 9, 3) := by decide +kernel
theorem dX2_init_12 : decode cX2_init 12 = .ok (.aload_n 0, 1) := by decide +kernel
theorem dX2_init_13 : decode cX2_init 13 = .ok (.bipush 20, 2) := by decide +kernel
theorem dX2_init_15 : decode cX2_init 15 = .ok (.newarray .int, 2) := by decide +kernel
theorem dX2_init_17 : decode cX2_init 17 = .ok (.putfield 15, 3) := by decide +kernel
theorem dX2_init_20 : decode cX2_init 20 = .ok (.aload_n 0, 1) := by decide +kernel
theorem dX2_init_21 : decode cX2_init 21 = .ok (.bipush 20, 2) := by decide +kernel
theorem dX2_init_23 : decode cX2_init 23 = .ok (.newarray .int, 2) := by decide +kernel
theorem dX2_init_25 : decode cX2_init 25 = .ok (.putfield 18, 3) := by decide +kernel
theorem dX2_init_28 : decode cX2_init 28 = .ok (.aload_n 0, 1) := by decide +kernel
theorem dX2_init_29 : decode cX2_init 29 = .ok (.bipush 20, 2) := by decide +kernel
theorem dX2_init_31 : decode cX2_init 31 = .ok (.newarray .int, 2) := by decide +kernel
theorem dX2_init_33 : decode cX2_init 33 = .ok (.putfield 21, 3) := by decide +kernel
theorem dX2_init_36 : decode cX2_init 36 = .ok (.aload_n 0, 1) := by decide +kernel
theorem dX2_init_37 : decode cX2_init 37 = .ok (.bipush 20, 2) := by decide +kernel
theorem dX2_init_39 : decode cX2_init 39 = .ok (.newarray .int, 2) := by decide +kernel
theorem dX2_init_41 : decode cX2_init 41 = .ok (.putfield 24, 3) := by decide +kernel
theorem dX2_init_44 : decode cX2_init 44 = .ok (.aload_n 0, 1) := by decide +kernel
theorem dX2_init_45 : decode cX2_init 45 = .ok (.bipush 20, 2) := by decide +kernel
theorem dX2_init_47 : decode cX2_init 47 = .ok (.newarray .int, 2) := by decide +kernel
theorem dX2_init_49 : decode cX2_init 49 = .ok (.putfield 27, 3) := by decide +kernel
theorem dX2_init_52 : decode cX2_init 52 = .ok (.aload_n 0, 1) := by decide +kernel
theorem dX2_init_53 : decode cX2_init 53 = .ok (.bipush 20, 2) := by decide +kernel
theorem dX2_init_55 : decode cX2_init 55 = .ok (.newarray .int, 2) := by decide +kernel
theorem dX2_init_57 : decode cX2_init 57 = .ok (.putfield 30, 3) := by decide +kernel
theorem dX2_init_60 : decode cX2_init 60 = .ok (.aload_n 0, 1) := by decide +kernel
theorem dX2_init_61 : decode cX2_init 61 = .ok (.iconst 0, 1) := by decide +kernel
theorem dX2_init_62 : decode cX2_init 62 = .ok (.putfield 33, 3) := by decide +kernel
theorem dX2_init_65 : decode cX2_init 65 = .ok (.return_, 1) := by decide +kernel
theorem dX2_add_0 : decode cX2_add 0 = .ok (.aload_n 0, 1) := by decide +kernel
theorem dX2_add_1 : decode cX2_add 1 = .ok (.getfield 9, 3) := by decide +kernel
theorem dX2_add_4 : decode cX2_add 4 = .ok (.aload_n 0, 1) := by decide +kernel
theorem dX2_add_5 : decode cX2_add 5 = .ok (.getfield 33, 3) := by decide +kernel
theorem dX2_add_8 : decode cX2_add 8 = .ok (.iload_n 2, 1) := by decide +kernel
theorem dX2_add_9 : decode cX2_add 9 = .ok (.iastore, 1) := by decide +kernel
theorem dX2_add_10 : decode cX2_add 10 = .ok (.aload_n 0, 1) := by decide +kernel
theorem dX2_add_11 : decode cX2_add 11 = .ok (.getfield 15, 3) := by decide +kernel
theorem dX2_add_14 : decode cX2_add 14 = .ok (.aload_n 0, 1) := by decide +kernel
theorem dX2_add_15 : decode cX2_add 15 = .ok (.getfield 33, 3) := by decide +kernel
theorem dX2_add_18 : decode cX2_add 18 = .ok (.aload_n 1, 1) := by decide +kernel
theorem dX2_add_19 : decode cX2_add 19 = .ok (.getfield 37, 3) := by decide +kernel
theorem dX2_add_22 : decode cX2_add 22 = .ok (.iastore, 1) := by decide +kernel
theorem dX2_add_23 : decode cX2_add 23 = .ok (.aload_n 0, 1) := by decide +kernel
theorem dX2_add_24 : decode cX2_add 24 = .ok (.getfield 18, 3) := by decide +kernel
theorem dX2_add_27 : decode cX2_add 27 = .ok (.aload_n 0, 1) := by decide +kernel
theorem dX2_add_28 : decode cX2_add 28 = .ok (.getfield 33, 3) := by decide +kernel
theorem dX2_add_31 : decode cX2_add 31 = .ok (.aload_n 1, 1) := by decide +kernel
theorem dX2_add_32 : decode cX2_add 32 = .ok (.getfield 41, 3) := by decide +kernel
theorem dX2_add_35 : decode cX2_add 35 = .ok (.iastore, 1) := by decide +kernel
theorem dX2_add_36 : decode cX2_add 36 = .ok (.aload_n 0, 1) := by decide +kernel
theorem dX2_add_37 : decode cX2_add 37 = .ok (.getfield 21, 3) := by decide +kernel
theorem dX2_add_40 : decode cX2_add 40 = .ok (.aload_n 0, 1) := by decide +kernel
theorem dX2_add_41 : decode cX2_add 41 = .ok (.getfield 33, 3) := by decide +kernel
theorem dX2_add_44 : decode cX2_add 44 = .ok (.aload_n 1, 1) := by decide +kernel
theorem dX2_add_45 : decode cX2_add 45 = .ok (.getfield 43, 3) := by decide +kernel
theorem dX2_add_48 : decode cX2_add 48 = .ok (.iastore, 1) := by decide +kernel
theorem dX2_add_49 : decode cX2_add 49 = .ok (.aload_n 0, 1) := by decide +kernel
theorem dX2_add_50 : decode cX2_add 50 = .ok (.getfield 24, 3) := by decide +kernel
theorem dX2_add_53 : decode cX2_add 53 = .ok (.aload_n 0, 1) := by decide +kernel
theorem dX2_add_54 : decode cX2_add 54 = .ok (.getfield 33, 3) := by decide +kernel
theorem dX2_add_57 : decode cX2_add 57 = .ok (.aload_n 1, 1) := by decide +kernel
theorem dX2_add_58 : decode cX2_add 58 = .ok (.getfield 45, 3) := by decide +kernel
theorem dX2_add_61 : decode cX2_add 61 = .ok (.iastore, 1) := by decide +kernel
theorem dX2_add_62 : decode cX2_add 62 = .ok (.aload_n 0, 1) := by decide +kernel
theorem dX2_add_63 : decode cX2_add 63 = .ok (.getfield 27, 3) := by decide +kernel
theorem dX2_add_66 : decode cX2_add 66 = .ok (.aload_n 0, 1) := by decide +kernel
theorem dX2_add_67 : decode cX2_add 67 = .ok (.getfield 33, 3) := by decide +kernel
theorem dX2_add_70 : decode cX2_add 70 = .ok (.aload_n 1, 1) := by decide +kernel
theorem dX2_add_71 : decode cX2_add 71 = .ok (.getfield 47, 3) := by decide +kernel
theorem dX2_add_74 : decode cX2_add 74 = .ok (.iastore, 1) := by decide +kernel
theorem dX2_add_75 : decode cX2_add 75 = .ok (.aload_n 0, 1) := by decide +kernel
theorem dX2_add_76 : decode cX2_add 76 = .ok (.getfield 30, 3) := by decide +kernel
theorem dX2_add_79 : decode cX2_add 79 = .ok (.aload_n 0, 1) := by decide +kernel
theorem dX2_add_80 : decode cX2_add 80 = .ok (.getfield 33, 3) := by decide +kernel
theorem dX2_add_83 : decode cX2_add 83 = .ok (.aload_n 1, 1) := by decide +kernel
theorem dX2_add_84 : decode cX2_add 84 = .ok (.getfield 49, 3) := by decide +kernel
theorem dX2_add_87 : decode cX2_add 87 = .ok (.iastore, 1) := by decide +kernel
theorem dX2_add_88 : decode cX2_add 88 = .ok (.aload_n 0, 1) := by decide +kernel
theorem dX2_add_89 : decode cX2_add 89 = .ok (.dup, 1) := by decide +kernel
theorem dX2_add_90 : decode cX2_add 90 = .ok (.getfield 33, 3) := by decide +kernel
theorem dX2_add_93 : decode cX2_add 93 = .ok (.iconst 1, 1) := by decide +kernel
theorem dX2_add_94 : decode cX2_add 94 = .ok (.iadd, 1) := by decide +kernel
theorem dX2_add_95 : decode cX2_add 95 = .ok (.putfield 33, 3) := by decide +kernel
theorem dX2_add_98 : decode cX2_add 98 = .ok (.aload_n 0, 1) := by decide +kernel
theorem dX2_add_99 : decode cX2_add 99 = .ok (.getfield 33, 3) := by decide +kernel
theorem dX2_add_102 : decode cX2_add 102 = .ok (.iconst 1, 1) := by decide +kernel
theorem dX2_add_103 : decode cX2_add 103 = .ok (.isub, 1) := by decide +kernel
theorem dX2_add_104 : decode cX2_add 104 = .ok (.ireturn, 1) := by decide +kernel
theorem dX2_inForce_0 : decode cX2_inForce 0 = .ok (.iconst (-1), 1) := by decide +kernel
theorem dX2_inForce_1 : decode cX2_inForce 1 = .ok (.istore_n 2, 1) := by decide +kernel
theorem dX2_inForce_2 : decode cX2_inForce 2 = .ok (.iconst 0, 1) := by decide +kernel
theorem dX2_inForce_3 : decode cX2_inForce 3 = .ok (.istore_n 3, 1) := by decide +kernel
theorem dX2_inForce_4 : decode cX2_inForce 4 = .ok (.iload_n 3, 1) := by decide +kernel
theorem dX2_inForce_5 : decode cX2_inForce 5 = .ok (.aload_n 0, 1) := by decide +kernel
theorem dX2_inForce_6 : decode cX2_inForce 6 = .ok (.getfield 33, 3) := by decide +kernel
theorem dX2_inForce_9 : decode cX2_inForce 9 = .ok (.if_icmp .ge 41, 3) := by decide +kernel
theorem dX2_inForce_12 : decode cX2_inForce 12 = .ok (.aload_n 0, 1) := by decide +kernel
theorem dX2_inForce_13 : decode cX2_inForce 13 = .ok (.getfield 9, 3) := by decide +kernel
theorem dX2_inForce_16 : decode cX2_inForce 16 = .ok (.iload_n 3, 1) := by decide +kernel
theorem dX2_inForce_17 : decode cX2_inForce 17 = .ok (.iaload, 1) := by decide +kernel
theorem dX2_inForce_18 : decode cX2_inForce 18 = .ok (.iload_n 1, 1) := by decide +kernel
theorem dX2_inForce_19 : decode cX2_inForce 19 = .ok (.if_icmp .gt 25, 3) := by decide +kernel
theorem dX2_inForce_22 : decode cX2_inForce 22 = .ok (.iload_n 2, 1) := by decide +kernel
theorem dX2_inForce_23 : decode cX2_inForce 23 = .ok (.iconst (-1), 1) := by decide +kernel
theorem dX2_inForce_24 : decode cX2_inForce 24 = .ok (.if_icmp .eq 18, 3) := by decide +kernel
theorem dX2_inForce_27 : decode cX2_inForce 27 = .ok (.aload_n 0, 1) := by decide +kernel
theorem dX2_inForce_28 : decode cX2_inForce 28 = .ok (.getfield 9, 3) := by decide +kernel
theorem dX2_inForce_31 : decode cX2_inForce 31 = .ok (.iload_n 3, 1) := by decide +kernel
theorem dX2_inForce_32 : decode cX2_inForce 32 = .ok (.iaload, 1) := by decide +kernel
theorem dX2_inForce_33 : decode cX2_inForce 33 = .ok (.aload_n 0, 1) := by decide +kernel
theorem dX2_inForce_34 : decode cX2_inForce 34 = .ok (.getfield 9, 3) := by decide +kernel
theorem dX2_inForce_37 : decode cX2_inForce 37 = .ok (.iload_n 2, 1) := by decide +kernel
theorem dX2_inForce_38 : decode cX2_inForce 38 = .ok (.iaload, 1) := by decide +kernel
theorem dX2_inForce_39 : decode cX2_inForce 39 = .ok (.if_icmp .lt 5, 3) := by decide +kernel
theorem dX2_inForce_42 : decode cX2_inForce 42 = .ok (.iload_n 3, 1) := by decide +kernel
theorem dX2_inForce_43 : decode cX2_inForce 43 = .ok (.istore_n 2, 1) := by decide +kernel
theorem dX2_inForce_44 : decode cX2_inForce 44 = .ok (.iinc 3 1, 3) := by decide +kernel
theorem dX2_inForce_47 : decode cX2_inForce 47 = .ok (.goto (-43), 3) := by decide +kernel
theorem dX2_inForce_50 : decode cX2_inForce 50 = .ok (.iload_n 2, 1) := by decide +kernel
theorem dX2_inForce_51 : decode cX2_inForce 51 = .ok (.ireturn, 1) := by decide +kernel
theorem dX2_witnessShare_0 : decode cX2_witnessShare 0 = .ok (.iload_n 1, 1) := by decide +kernel
theorem dX2_witnessShare_1 : decode cX2_witnessShare 1 = .ok (.iconst (-1), 1) := by decide +kernel
theorem dX2_witnessShare_2 : decode cX2_witnessShare 2 = .ok (.if_icmp .ne 7, 3) := by decide +kernel
theorem dX2_witnessShare_5 : decode cX2_witnessShare 5 = .ok (.iconst 0, 1) := by decide +kernel
theorem dX2_witnessShare_6 : decode cX2_witnessShare 6 = .ok (.goto 9, 3) := by decide +kernel
theorem dX2_witnessShare_9 : decode cX2_witnessShare 9 = .ok (.aload_n 0, 1) := by decide +kernel
theorem dX2_witnessShare_10 : decode cX2_witnessShare 10 = .ok (.getfield 30, 3) := by decide +kernel
theorem dX2_witnessShare_13 : decode cX2_witnessShare 13 = .ok (.iload_n 1, 1) := by decide +kernel
theorem dX2_witnessShare_14 : decode cX2_witnessShare 14 = .ok (.iaload, 1) := by decide +kernel
theorem dX2_witnessShare_15 : decode cX2_witnessShare 15 = .ok (.ireturn, 1) := by decide +kernel
theorem dX2_yearsToAnswer_0 : decode cX2_yearsToAnswer 0 = .ok (.iload_n 1, 1) := by decide +kernel
theorem dX2_yearsToAnswer_1 : decode cX2_yearsToAnswer 1 = .ok (.iconst (-1), 1) := by decide +kernel
theorem dX2_yearsToAnswer_2 : decode cX2_yearsToAnswer 2 = .ok (.if_icmp .ne 7, 3) := by decide +kernel
theorem dX2_yearsToAnswer_5 : decode cX2_yearsToAnswer 5 = .ok (.iconst 0, 1) := by decide +kernel
theorem dX2_yearsToAnswer_6 : decode cX2_yearsToAnswer 6 = .ok (.goto 9, 3) := by decide +kernel
theorem dX2_yearsToAnswer_9 : decode cX2_yearsToAnswer 9 = .ok (.aload_n 0, 1) := by decide +kernel
theorem dX2_yearsToAnswer_10 : decode cX2_yearsToAnswer 10 = .ok (.getfield 21, 3) := by decide +kernel
theorem dX2_yearsToAnswer_13 : decode cX2_yearsToAnswer 13 = .ok (.iload_n 1, 1) := by decide +kernel
theorem dX2_yearsToAnswer_14 : decode cX2_yearsToAnswer 14 = .ok (.iaload, 1) := by decide +kernel
theorem dX2_yearsToAnswer_15 : decode cX2_yearsToAnswer 15 = .ok (.ireturn, 1) := by decide +kernel
theorem dX2_askedFor_0 : decode cX2_askedFor 0 = .ok (.iload_n 1, 1) := by decide +kernel
theorem dX2_askedFor_1 : decode cX2_askedFor 1 = .ok (.iconst (-1), 1) := by decide +kernel
theorem dX2_askedFor_2 : decode cX2_askedFor 2 = .ok (.if_icmp .ne 7, 3) := by decide +kernel
theorem dX2_askedFor_5 : decode cX2_askedFor 5 = .ok (.iconst 0, 1) := by decide +kernel
theorem dX2_askedFor_6 : decode cX2_askedFor 6 = .ok (.goto 9, 3) := by decide +kernel
theorem dX2_askedFor_9 : decode cX2_askedFor 9 = .ok (.aload_n 0, 1) := by decide +kernel
theorem dX2_askedFor_10 : decode cX2_askedFor 10 = .ok (.getfield 18, 3) := by decide +kernel
theorem dX2_askedFor_13 : decode cX2_askedFor 13 = .ok (.iload_n 1, 1) := by decide +kernel
theorem dX2_askedFor_14 : decode cX2_askedFor 14 = .ok (.iaload, 1) := by decide +kernel
theorem dX2_askedFor_15 : decode cX2_askedFor 15 = .ok (.istore 4, 2) := by decide +kernel
theorem dX2_askedFor_17 : decode cX2_askedFor 17 = .ok (.iload 4, 2) := by decide +kernel
theorem dX2_askedFor_19 : decode cX2_askedFor 19 = .ok (.ifCond .ne 5, 3) := by decide +kernel
theorem dX2_askedFor_22 : decode cX2_askedFor 22 = .ok (.iconst 0, 1) := by decide +kernel
theorem dX2_askedFor_23 : decode cX2_askedFor 23 = .ok (.ireturn, 1) := by decide +kernel
theorem dX2_askedFor_24 : decode cX2_askedFor 24 = .ok (.lload_n 2, 1) := by decide +kernel
theorem dX2_askedFor_25 : decode cX2_askedFor 25 = .ok (.aload_n 0, 1) := by decide +kernel
theorem dX2_askedFor_26 : decode cX2_askedFor 26 = .ok (.getfield 15, 3) := by decide +kernel
theorem dX2_askedFor_29 : decode cX2_askedFor 29 = .ok (.iload_n 1, 1) := by decide +kernel
theorem dX2_askedFor_30 : decode cX2_askedFor 30 = .ok (.iaload, 1) := by decide +kernel
theorem dX2_askedFor_31 : decode cX2_askedFor 31 = .ok (.i2l, 1) := by decide +kernel
theorem dX2_askedFor_32 : decode cX2_askedFor 32 = .ok (.lmul, 1) := by decide +kernel
theorem dX2_askedFor_33 : decode cX2_askedFor 33 = .ok (.iload 4, 2) := by decide +kernel
theorem dX2_askedFor_35 : decode cX2_askedFor 35 = .ok (.i2l, 1) := by decide +kernel
theorem dX2_askedFor_36 : decode cX2_askedFor 36 = .ok (.ladd, 1) := by decide +kernel
theorem dX2_askedFor_37 : decode cX2_askedFor 37 = .ok (.lconst 1, 1) := by decide +kernel
theorem dX2_askedFor_38 : decode cX2_askedFor 38 = .ok (.lsub, 1) := by decide +kernel
theorem dX2_askedFor_39 : decode cX2_askedFor 39 = .ok (.iload 4, 2) := by decide +kernel
theorem dX2_askedFor_41 : decode cX2_askedFor 41 = .ok (.i2l, 1) := by decide +kernel
theorem dX2_askedFor_42 : decode cX2_askedFor 42 = .ok (.ldiv, 1) := by decide +kernel
theorem dX2_askedFor_43 : decode cX2_askedFor 43 = .ok (.lstore 5, 2) := by decide +kernel
theorem dX2_askedFor_45 : decode cX2_askedFor 45 = .ok (.lload 5, 2) := by decide +kernel
theorem dX2_askedFor_47 : decode cX2_askedFor 47 = .ok (.ldc2_w 51, 3) := by decide +kernel
theorem dX2_askedFor_50 : decode cX2_askedFor 50 = .ok (.invokestatic 53, 3) := by decide +kernel
theorem dX2_askedFor_53 : decode cX2_askedFor 53 = .ok (.l2i, 1) := by decide +kernel
theorem dX2_askedFor_54 : decode cX2_askedFor 54 = .ok (.ireturn, 1) := by decide +kernel
theorem dX2_grown_0 : decode cX2_grown 0 = .ok (.iload_n 1, 1) := by decide +kernel
theorem dX2_grown_1 : decode cX2_grown 1 = .ok (.iconst (-1), 1) := by decide +kernel
theorem dX2_grown_2 : decode cX2_grown 2 = .ok (.if_icmp .ne 7, 3) := by decide +kernel
theorem dX2_grown_5 : decode cX2_grown 5 = .ok (.iconst 0, 1) := by decide +kernel
theorem dX2_grown_6 : decode cX2_grown 6 = .ok (.goto 9, 3) := by decide +kernel
theorem dX2_grown_9 : decode cX2_grown 9 = .ok (.aload_n 0, 1) := by decide +kernel
theorem dX2_grown_10 : decode cX2_grown 10 = .ok (.getfield 27, 3) := by decide +kernel
theorem dX2_grown_13 : decode cX2_grown 13 = .ok (.iload_n 1, 1) := by decide +kernel
theorem dX2_grown_14 : decode cX2_grown 14 = .ok (.iaload, 1) := by decide +kernel
theorem dX2_grown_15 : decode cX2_grown 15 = .ok (.istore_n 3, 1) := by decide +kernel
theorem dX2_grown_16 : decode cX2_grown 16 = .ok (.iload_n 3, 1) := by decide +kernel
theorem dX2_grown_17 : decode cX2_grown 17 = .ok (.ifCond .ne 5, 3) := by decide +kernel
theorem dX2_grown_20 : decode cX2_grown 20 = .ok (.iload_n 2, 1) := by decide +kernel
theorem dX2_grown_21 : decode cX2_grown 21 = .ok (.ireturn, 1) := by decide +kernel
theorem dX2_grown_22 : decode cX2_grown 22 = .ok (.iload_n 2, 1) := by decide +kernel
theorem dX2_grown_23 : decode cX2_grown 23 = .ok (.i2l, 1) := by decide +kernel
theorem dX2_grown_24 : decode cX2_grown 24 = .ok (.aload_n 0, 1) := by decide +kernel
theorem dX2_grown_25 : decode cX2_grown 25 = .ok (.getfield 24, 3) := by decide +kernel
theorem dX2_grown_28 : decode cX2_grown 28 = .ok (.iload_n 1, 1) := by decide +kernel
theorem dX2_grown_29 : decode cX2_grown 29 = .ok (.iaload, 1) := by decide +kernel
theorem dX2_grown_30 : decode cX2_grown 30 = .ok (.i2l, 1) := by decide +kernel
theorem dX2_grown_31 : decode cX2_grown 31 = .ok (.lmul, 1) := by decide +kernel
theorem dX2_grown_32 : decode cX2_grown 32 = .ok (.iload_n 3, 1) := by decide +kernel
theorem dX2_grown_33 : decode cX2_grown 33 = .ok (.i2l, 1) := by decide +kernel
theorem dX2_grown_34 : decode cX2_grown 34 = .ok (.ldiv, 1) := by decide +kernel
theorem dX2_grown_35 : decode cX2_grown 35 = .ok (.lstore 4, 2) := by decide +kernel
theorem dX2_grown_37 : decode cX2_grown 37 = .ok (.iload_n 2, 1) := by decide +kernel
theorem dX2_grown_38 : decode cX2_grown 38 = .ok (.i2l, 1) := by decide +kernel
theorem dX2_grown_39 : decode cX2_grown 39 = .ok (.lload 4, 2) := by decide +kernel
theorem dX2_grown_41 : decode cX2_grown 41 = .ok (.ladd, 1) := by decide +kernel
theorem dX2_grown_42 : decode cX2_grown 42 = .ok (.ldc2_w 51, 3) := by decide +kernel
theorem dX2_grown_45 : decode cX2_grown 45 = .ok (.invokestatic 53, 3) := by decide +kernel
theorem dX2_grown_48 : decode cX2_grown 48 = .ok (.l2i, 1) := by decide +kernel
theorem dX2_grown_49 : decode cX2_grown 49 = .ok (.ireturn, 1) := by decide +kernel
theorem dX3_init_0 : decode cX3_init 0 = .ok (.aload_n 0, 1) := by decide +kernel
theorem dX3_init_1 : decode cX3_init 1 = .ok (.invokespecial 3, 3) := by decide +kernel
theorem dX3_init_4 : decode cX3_init 4 = .ok (.aload_n 0, 1) := by decide +kernel
theorem dX3_init_5 : decode cX3_init 5 = .ok (.sipush 400, 3) := by decide +kernel
theorem dX3_init_8 : decode cX3_init 8 = .ok (.newarray .int, 2) := by decide +kernel
theorem dX3_init_10 : decode cX3_init 10 = .ok (.putfield 9, 3) := by decide +kernel
theorem dX3_init_13 : decode cX3_init 13 = .ok (.aload_n 0, 1) := by decide +kernel
theorem dX3_init_14 : decode cX3_init 14 = .ok (.sipush 400, 3) := by decide +kernel
theorem dX3_init_17 : decode cX3_init 17 = .ok (.newarray .int, 2) := by decide +kernel
theorem dX3_init_19 : decode cX3_init 19 = .ok (.putfield 15, 3) := by decide +kernel
theorem dX3_init_22 : decode cX3_init 22 = .ok (.aload_n 0, 1) := by decide +kernel
theorem dX3_init_23 : decode cX3_init 23 = .ok (.sipush 400, 3) := by decide +kernel
theorem dX3_init_26 : decode cX3_init 26 = .ok (.newarray .int, 2) := by decide +kernel
theorem dX3_init_28 : decode cX3_init 28 = .ok (.putfield 18, 3) := by decide +kernel
theorem dX3_init_31 : decode cX3_init 31 = .ok (.aload_n 0, 1) := by decide +kernel
theorem dX3_init_32 : decode cX3_init 32 = .ok (.sipush 400, 3) := by decide +kernel
theorem dX3_init_35 : decode cX3_init 35 = .ok (.newarray .int, 2) := by decide +kernel
theorem dX3_init_37 : decode cX3_init 37 = .ok (.putfield 21, 3) := by decide +kernel
theorem dX3_init_40 : decode cX3_init 40 = .ok (.aload_n 0, 1) := by decide +kernel
theorem dX3_init_41 : decode cX3_init 41 = .ok (.iconst 0, 1) := by decide +kernel
theorem dX3_init_42 : decode cX3_init 42 = .ok (.putfield 24, 3) := by decide +kernel
theorem dX3_init_45 : decode cX3_init 45 = .ok (.return_, 1) := by decide +kernel
theorem dX3_add_0 : decode cX3_add 0 = .ok (.aload_n 0, 1) := by decide +kernel
theorem dX3_add_1 : decode cX3_add 1 = .ok (.getfield 9, 3) := by decide +kernel
theorem dX3_add_4 : decode cX3_add 4 = .ok (.aload_n 0, 1) := by decide +kernel
theorem dX3_add_5 : decode cX3_add 5 = .ok (.getfield 24, 3) := by decide +kernel
theorem dX3_add_8 : decode cX3_add 8 = .ok (.iload_n 1, 1) := by decide +kernel
theorem dX3_add_9 : decode cX3_add 9 = .ok (.iastore, 1) := by decide +kernel
theorem dX3_add_10 : decode cX3_add 10 = .ok (.aload_n 0, 1) := by decide +kernel
theorem dX3_add_11 : decode cX3_add 11 = .ok (.getfield 15, 3) := by decide +kernel
theorem dX3_add_14 : decode cX3_add 14 = .ok (.aload_n 0, 1) := by decide +kernel
theorem dX3_add_15 : decode cX3_add 15 = .ok (.getfield 24, 3) := by decide +kernel
theorem dX3_add_18 : decode cX3_add 18 = .ok (.iload_n 2, 1) := by decide +kernel
theorem dX3_add_19 : decode cX3_add 19 = .ok (.iastore, 1) := by decide +kernel
theorem dX3_add_20 : decode cX3_add 20 = .ok (.aload_n 0, 1) := by decide +kernel
theorem dX3_add_21 : decode cX3_add 21 = .ok (.getfield 18, 3) := by decide +kernel
theorem dX3_add_24 : decode cX3_add 24 = .ok (.aload_n 0, 1) := by decide +kernel
theorem dX3_add_25 : decode cX3_add 25 = .ok (.getfield 24, 3) := by decide +kernel
theorem dX3_add_28 : decode cX3_add 28 = .ok (.iload_n 3, 1) := by decide +kernel
theorem dX3_add_29 : decode cX3_add 29 = .ok (.iastore, 1) := by decide +kernel
theorem dX3_add_30 : decode cX3_add 30 = .ok (.aload_n 0, 1) := by decide +kernel
theorem dX3_add_31 : decode cX3_add 31 = .ok (.getfield 21, 3) := by decide +kernel
theorem dX3_add_34 : decode cX3_add 34 = .ok (.aload_n 0, 1) := by decide +kernel
theorem dX3_add_35 : decode cX3_add 35 = .ok (.getfield 24, 3) := by decide +kernel
theorem dX3_add_38 : decode cX3_add 38 = .ok (.iload 4, 2) := by decide +kernel
theorem dX3_add_40 : decode cX3_add 40 = .ok (.iastore, 1) := by decide +kernel
theorem dX3_add_41 : decode cX3_add 41 = .ok (.aload_n 0, 1) := by decide +kernel
theorem dX3_add_42 : decode cX3_add 42 = .ok (.dup, 1) := by decide +kernel
theorem dX3_add_43 : decode cX3_add 43 = .ok (.getfield 24, 3) := by decide +kernel
theorem dX3_add_46 : decode cX3_add 46 = .ok (.iconst 1, 1) := by decide +kernel
theorem dX3_add_47 : decode cX3_add 47 = .ok (.iadd, 1) := by decide +kernel
theorem dX3_add_48 : decode cX3_add 48 = .ok (.putfield 24, 3) := by decide +kernel
theorem dX3_add_51 : decode cX3_add 51 = .ok (.aload_n 0, 1) := by decide +kernel
theorem dX3_add_52 : decode cX3_add 52 = .ok (.getfield 24, 3) := by decide +kernel
theorem dX3_add_55 : decode cX3_add 55 = .ok (.iconst 1, 1) := by decide +kernel
theorem dX3_add_56 : decode cX3_add 56 = .ok (.isub, 1) := by decide +kernel
theorem dX3_add_57 : decode cX3_add 57 = .ok (.ireturn, 1) := by decide +kernel
theorem dX3_room_0 : decode cX3_room 0 = .ok (.sipush 400, 3) := by decide +kernel
theorem dX3_room_3 : decode cX3_room 3 = .ok (.aload_n 0, 1) := by decide +kernel
theorem dX3_room_4 : decode cX3_room 4 = .ok (.getfield 24, 3) := by decide +kernel
theorem dX3_room_7 : decode cX3_room 7 = .ok (.isub, 1) := by decide +kernel
theorem dX3_room_8 : decode cX3_room 8 = .ok (.ireturn, 1) := by decide +kernel
theorem dX3_isLoan_0 : decode cX3_isLoan 0 = .ok (.aload_n 0, 1) := by decide +kernel
theorem dX3_isLoan_1 : decode cX3_isLoan 1 = .ok (.getfield 21, 3) := by decide +kernel
theorem dX3_isLoan_4 : decode cX3_isLoan 4 = .ok (.iload_n 1, 1) := by decide +kernel
theorem dX3_isLoan_5 : decode cX3_isLoan 5 = .ok (.iaload, 1) := by decide +kernel
theorem dX3_isLoan_6 : decode cX3_isLoan 6 = .ok (.iconst (-1), 1) := by decide +kernel
theorem dX3_isLoan_7 : decode cX3_isLoan 7 = .ok (.if_icmp .ne 7, 3) := by decide +kernel
theorem dX3_isLoan_10 : decode cX3_isLoan 10 = .ok (.iconst 1, 1) := by decide +kernel
theorem dX3_isLoan_11 : decode cX3_isLoan 11 = .ok (.goto 4, 3) := by decide +kernel
theorem dX3_isLoan_14 : decode cX3_isLoan 14 = .ok (.iconst 0, 1) := by decide +kernel
theorem dX3_isLoan_15 : decode cX3_isLoan 15 = .ok (.ireturn, 1) := by decide +kernel
theorem dX3_open_0 : decode cX3_open 0 = .ok (.iconst 0, 1) := by decide +kernel
theorem dX3_open_1 : decode cX3_open 1 = .ok (.istore_n 1, 1) := by decide +kernel
theorem dX3_open_2 : decode cX3_open 2 = .ok (.iconst 0, 1) := by decide +kernel
theorem dX3_open_3 : decode cX3_open 3 = .ok (.istore_n 2, 1) := by decide +kernel
theorem dX3_open_4 : decode cX3_open 4 = .ok (.iload_n 2, 1) := by decide +kernel
theorem dX3_open_5 : decode cX3_open 5 = .ok (.aload_n 0, 1) := by decide +kernel
theorem dX3_open_6 : decode cX3_open 6 = .ok (.getfield 24, 3) := by decide +kernel
theorem dX3_open_9 : decode cX3_open 9 = .ok (.if_icmp .ge 21, 3) := by decide +kernel
theorem dX3_open_12 : decode cX3_open 12 = .ok (.aload_n 0, 1) := by decide +kernel
theorem dX3_open_13 : decode cX3_open 13 = .ok (.getfield 18, 3) := by decide +kernel
theorem dX3_open_16 : decode cX3_open 16 = .ok (.iload_n 2, 1) := by decide +kernel
theorem dX3_open_17 : decode cX3_open 17 = .ok (.iaload, 1) := by decide +kernel
theorem dX3_open_18 : decode cX3_open 18 = .ok (.ifCond .le 6, 3) := by decide +kernel
theorem dX3_open_21 : decode cX3_open 21 = .ok (.iinc 1 1, 3) := by decide +kernel
theorem dX3_open_24 : decode cX3_open 24 = .ok (.iinc 2 1, 3) := by decide +kernel
theorem dX3_open_27 : decode cX3_open 27 = .ok (.goto (-23), 3) := by decide +kernel
theorem dX3_open_30 : decode cX3_open 30 = .ok (.iload_n 1, 1) := by decide +kernel
theorem dX3_open_31 : decode cX3_open 31 = .ok (.ireturn, 1) := by decide +kernel
set_option maxRecDepth 20000 in
theorem ggX3_overdue_X3_isLoan : GoodIn wsX3_overdue wsX3_isLoan := goodIn_r _ [8, 3, 9, 10, 11, 12, 13] (by decide +kernel) (by decide +kernel)
set_option maxRecDepth 20000 in
theorem gX3_overdue_X3_isLoan : GoodIn wsX3_overdue (wsV RX3 28 RX3 yX3_isLoan wsX3_isLoan) := goodIn_app (goodIn_of _ (by decide +kernel)) ggX3_overdue_X3_isLoan
theorem dX3_overdue_0 : decode cX3_overdue 0 = .ok (.iconst 0, 1) := by decide +kernel
theorem dX3_overdue_1 : decode cX3_overdue 1 = .ok (.istore_n 3, 1) := by decide +kernel
theorem dX3_overdue_2 : decode cX3_overdue 2 = .ok (.iconst 0, 1) := by decide +kernel
theorem dX3_overdue_3 : decode cX3_overdue 3 = .ok (.istore 4, 2) := by decide +kernel
theorem dX3_overdue_5 : decode cX3_overdue 5 = .ok (.iload 4, 2) := by decide +kernel
theorem dX3_overdue_7 : decode cX3_overdue 7 = .ok (.aload_n 0, 1) := by decide +kernel
theorem dX3_overdue_8 : decode cX3_overdue 8 = .ok (.getfield 24, 3) := by decide +kernel
theorem dX3_overdue_11 : decode cX3_overdue 11 = .ok (.if_icmp .ge 50, 3) := by decide +kernel
theorem dX3_overdue_14 : decode cX3_overdue 14 = .ok (.aload_n 0, 1) := by decide +kernel
theorem dX3_overdue_15 : decode cX3_overdue 15 = .ok (.getfield 18, 3) := by decide +kernel
theorem dX3_overdue_18 : decode cX3_overdue 18 = .ok (.iload 4, 2) := by decide +kernel
theorem dX3_overdue_20 : decode cX3_overdue 20 = .ok (.iaload, 1) := by decide +kernel
theorem dX3_overdue_21 : decode cX3_overdue 21 = .ok (.ifCond .le 34, 3) := by decide +kernel
theorem dX3_overdue_24 : decode cX3_overdue 24 = .ok (.aload_n 0, 1) := by decide +kernel
theorem dX3_overdue_25 : decode cX3_overdue 25 = .ok (.iload 4, 2) := by decide +kernel
theorem dX3_overdue_27 : decode cX3_overdue 27 = .ok (.invokevirtual 28, 3) := by decide +kernel
theorem dX3_overdue_30 : decode cX3_overdue 30 = .ok (.ifCond .ne 25, 3) := by decide +kernel
theorem dX3_overdue_33 : decode cX3_overdue 33 = .ok (.aload_n 0, 1) := by decide +kernel
theorem dX3_overdue_34 : decode cX3_overdue 34 = .ok (.getfield 21, 3) := by decide +kernel
theorem dX3_overdue_37 : decode cX3_overdue 37 = .ok (.iload 4, 2) := by decide +kernel
theorem dX3_overdue_39 : decode cX3_overdue 39 = .ok (.iaload, 1) := by decide +kernel
theorem dX3_overdue_40 : decode cX3_overdue 40 = .ok (.iload_n 2, 1) := by decide +kernel
theorem dX3_overdue_41 : decode cX3_overdue 41 = .ok (.if_icmp .ge 14, 3) := by decide +kernel
theorem dX3_overdue_44 : decode cX3_overdue 44 = .ok (.iload_n 3, 1) := by decide +kernel
theorem dX3_overdue_45 : decode cX3_overdue 45 = .ok (.iload_n 1, 1) := by decide +kernel
theorem dX3_overdue_46 : decode cX3_overdue 46 = .ok (.if_icmp .ne 6, 3) := by decide +kernel
theorem dX3_overdue_49 : decode cX3_overdue 49 = .ok (.iload 4, 2) := by decide +kernel
theorem dX3_overdue_51 : decode cX3_overdue 51 = .ok (.ireturn, 1) := by decide +kernel
theorem dX3_overdue_52 : decode cX3_overdue 52 = .ok (.iinc 3 1, 3) := by decide +kernel
theorem dX3_overdue_55 : decode cX3_overdue 55 = .ok (.iinc 4 1, 3) := by decide +kernel
theorem dX3_overdue_58 : decode cX3_overdue 58 = .ok (.goto (-53), 3) := by decide +kernel
theorem dX3_overdue_61 : decode cX3_overdue 61 = .ok (.iconst (-1), 1) := by decide +kernel
theorem dX3_overdue_62 : decode cX3_overdue 62 = .ok (.ireturn, 1) := by decide +kernel
theorem dX3_isOpenBetween_0 : decode cX3_isOpenBetween 0 = .ok (.aload_n 0, 1) := by decide +kernel
theorem dX3_isOpenBetween_1 : decode cX3_isOpenBetween 1 = .ok (.getfield 18, 3) := by decide +kernel
theorem dX3_isOpenBetween_4 : decode cX3_isOpenBetween 4 = .ok (.iload_n 1, 1) := by decide +kernel
theorem dX3_isOpenBetween_5 : decode cX3_isOpenBetween 5 = .ok (.iaload, 1) := by decide +kernel
theorem dX3_isOpenBetween_6 : decode cX3_isOpenBetween 6 = .ok (.ifCond .le 27, 3) := by decide +kernel
theorem dX3_isOpenBetween_9 : decode cX3_isOpenBetween 9 = .ok (.aload_n 0, 1) := by decide +kernel
theorem dX3_isOpenBetween_10 : decode cX3_isOpenBetween 10 = .ok (.getfield 9, 3) := by decide +kernel
theorem dX3_isOpenBetween_13 : decode cX3_isOpenBetween 13 = .ok (.iload_n 1, 1) := by decide +kernel
theorem dX3_isOpenBetween_14 : decode cX3_isOpenBetween 14 = .ok (.iaload, 1) := by decide +kernel
theorem dX3_isOpenBetween_15 : decode cX3_isOpenBetween 15 = .ok (.iload_n 2, 1) := by decide +kernel
theorem dX3_isOpenBetween_16 : decode cX3_isOpenBetween 16 = .ok (.if_icmp .ne 17, 3) := by decide +kernel
theorem dX3_isOpenBetween_19 : decode cX3_isOpenBetween 19 = .ok (.aload_n 0, 1) := by decide +kernel
theorem dX3_isOpenBetween_20 : decode cX3_isOpenBetween 20 = .ok (.getfield 15, 3) := by decide +kernel
theorem dX3_isOpenBetween_23 : decode cX3_isOpenBetween 23 = .ok (.iload_n 1, 1) := by decide +kernel
theorem dX3_isOpenBetween_24 : decode cX3_isOpenBetween 24 = .ok (.iaload, 1) := by decide +kernel
theorem dX3_isOpenBetween_25 : decode cX3_isOpenBetween 25 = .ok (.iload_n 3, 1) := by decide +kernel
theorem dX3_isOpenBetween_26 : decode cX3_isOpenBetween 26 = .ok (.if_icmp .ne 7, 3) := by decide +kernel
theorem dX3_isOpenBetween_29 : decode cX3_isOpenBetween 29 = .ok (.iconst 1, 1) := by decide +kernel
theorem dX3_isOpenBetween_30 : decode cX3_isOpenBetween 30 = .ok (.goto 4, 3) := by decide +kernel
theorem dX3_isOpenBetween_33 : decode cX3_isOpenBetween 33 = .ok (.iconst 0, 1) := by decide +kernel
theorem dX3_isOpenBetween_34 : decode cX3_isOpenBetween 34 = .ok (.ireturn, 1) := by decide +kernel
set_option maxRecDepth 20000 in
theorem ggX3_owed_X3_isOpenBetween : GoodIn wsX3_owed wsX3_isOpenBetween := goodIn_r _ [7, 2, 8, 9, 10, 11, 12, 13, 14] (by decide +kernel) (by decide +kernel)
set_option maxRecDepth 20000 in
theorem gX3_owed_X3_isOpenBetween : GoodIn wsX3_owed (wsV RX3 32 RX3 yX3_isOpenBetween wsX3_isOpenBetween) := goodIn_app (goodIn_of _ (by decide +kernel)) ggX3_owed_X3_isOpenBetween
theorem dX3_owed_0 : decode cX3_owed 0 = .ok (.lconst 0, 1) := by decide +kernel
theorem dX3_owed_1 : decode cX3_owed 1 = .ok (.lstore_n 3, 1) := by decide +kernel
theorem dX3_owed_2 : decode cX3_owed 2 = .ok (.iconst 0, 1) := by decide +kernel
theorem dX3_owed_3 : decode cX3_owed 3 = .ok (.istore 5, 2) := by decide +kernel
theorem dX3_owed_5 : decode cX3_owed 5 = .ok (.iload 5, 2) := by decide +kernel
theorem dX3_owed_7 : decode cX3_owed 7 = .ok (.aload_n 0, 1) := by decide +kernel
theorem dX3_owed_8 : decode cX3_owed 8 = .ok (.getfield 24, 3) := by decide +kernel
theorem dX3_owed_11 : decode cX3_owed 11 = .ok (.if_icmp .ge 31, 3) := by decide +kernel
theorem dX3_owed_14 : decode cX3_owed 14 = .ok (.aload_n 0, 1) := by decide +kernel
theorem dX3_owed_15 : decode cX3_owed 15 = .ok (.iload 5, 2) := by decide +kernel
theorem dX3_owed_17 : decode cX3_owed 17 = .ok (.iload_n 1, 1) := by decide +kernel
theorem dX3_owed_18 : decode cX3_owed 18 = .ok (.iload_n 2, 1) := by decide +kernel
theorem dX3_owed_19 : decode cX3_owed 19 = .ok (.invokevirtual 32, 3) := by decide +kernel
theorem dX3_owed_22 : decode cX3_owed 22 = .ok (.ifCond .eq 14, 3) := by decide +kernel
theorem dX3_owed_25 : decode cX3_owed 25 = .ok (.lload_n 3, 1) := by decide +kernel
theorem dX3_owed_26 : decode cX3_owed 26 = .ok (.aload_n 0, 1) := by decide +kernel
theorem dX3_owed_27 : decode cX3_owed 27 = .ok (.getfield 18, 3) := by decide +kernel
theorem dX3_owed_30 : decode cX3_owed 30 = .ok (.iload 5, 2) := by decide +kernel
theorem dX3_owed_32 : decode cX3_owed 32 = .ok (.iaload, 1) := by decide +kernel
theorem dX3_owed_33 : decode cX3_owed 33 = .ok (.i2l, 1) := by decide +kernel
theorem dX3_owed_34 : decode cX3_owed 34 = .ok (.ladd, 1) := by decide +kernel
theorem dX3_owed_35 : decode cX3_owed 35 = .ok (.lstore_n 3, 1) := by decide +kernel
theorem dX3_owed_36 : decode cX3_owed 36 = .ok (.iinc 5 1, 3) := by decide +kernel
theorem dX3_owed_39 : decode cX3_owed 39 = .ok (.goto (-34), 3) := by decide +kernel
theorem dX3_owed_42 : decode cX3_owed 42 = .ok (.lload_n 3, 1) := by decide +kernel
theorem dX3_owed_43 : decode cX3_owed 43 = .ok (.lreturn, 1) := by decide +kernel
set_option maxRecDepth 20000 in
theorem ggX3_answer_X3_firstToAnswer : GoodIn wsX3_answer wsX3_firstToAnswer := goodIn_r _ [11, 1, 12, 13, 14, 10, 15, 2, 16, 17, 18, 19, 20, 21, 22, 23, 24, 25, 26, 27, 28, 29, 30, 31, 32] (by decide +kernel) (by decide +kernel)
set_option maxRecDepth 20000 in
theorem gX3_answer_X3_firstToAnswer : GoodIn wsX3_answer (wsV RX3 36 RX3 yX3_firstToAnswer wsX3_firstToAnswer) := goodIn_app (goodIn_of _ (by decide +kernel)) ggX3_answer_X3_firstToAnswer
theorem dX3_answer_0 : decode cX3_answer 0 = .ok (.iload_n 3, 1) := by decide +kernel
theorem dX3_answer_1 : decode cX3_answer 1 = .ok (.istore 4, 2) := by decide +kernel
theorem dX3_answer_3 : decode cX3_answer 3 = .ok (.iconst 0, 1) := by decide +kernel
theorem dX3_answer_4 : decode cX3_answer 4 = .ok (.istore 5, 2) := by decide +kernel
theorem dX3_answer_6 : decode cX3_answer 6 = .ok (.iload 5, 2) := by decide +kernel
theorem dX3_answer_8 : decode cX3_answer 8 = .ok (.aload_n 0, 1) := by decide +kernel
theorem dX3_answer_9 : decode cX3_answer 9 = .ok (.getfield 24, 3) := by decide +kernel
theorem dX3_answer_12 : decode cX3_answer 12 = .ok (.if_icmp .ge 64, 3) := by decide +kernel
theorem dX3_answer_15 : decode cX3_answer 15 = .ok (.iload 4, 2) := by decide +kernel
theorem dX3_answer_17 : decode cX3_answer 17 = .ok (.ifCond .le 59, 3) := by decide +kernel
theorem dX3_answer_20 : decode cX3_answer 20 = .ok (.aload_n 0, 1) := by decide +kernel
theorem dX3_answer_21 : decode cX3_answer 21 = .ok (.iload_n 1, 1) := by decide +kernel
theorem dX3_answer_22 : decode cX3_answer 22 = .ok (.iload_n 2, 1) := by decide +kernel
theorem dX3_answer_23 : decode cX3_answer 23 = .ok (.invokevirtual 36, 3) := by decide +kernel
theorem dX3_answer_26 : decode cX3_answer 26 = .ok (.istore 6, 2) := by decide +kernel
theorem dX3_answer_28 : decode cX3_answer 28 = .ok (.iload 6, 2) := by decide +kernel
theorem dX3_answer_30 : decode cX3_answer 30 = .ok (.iconst (-1), 1) := by decide +kernel
theorem dX3_answer_31 : decode cX3_answer 31 = .ok (.if_icmp .ne 6, 3) := by decide +kernel
theorem dX3_answer_34 : decode cX3_answer 34 = .ok (.goto 42, 3) := by decide +kernel
theorem dX3_answer_37 : decode cX3_answer 37 = .ok (.iload 4, 2) := by decide +kernel
theorem dX3_answer_39 : decode cX3_answer 39 = .ok (.aload_n 0, 1) := by decide +kernel
theorem dX3_answer_40 : decode cX3_answer 40 = .ok (.getfield 18, 3) := by decide +kernel
theorem dX3_answer_43 : decode cX3_answer 43 = .ok (.iload 6, 2) := by decide +kernel
theorem dX3_answer_45 : decode cX3_answer 45 = .ok (.iaload, 1) := by decide +kernel
theorem dX3_answer_46 : decode cX3_answer 46 = .ok (.invokestatic 40, 3) := by decide +kernel
theorem dX3_answer_49 : decode cX3_answer 49 = .ok (.istore 7, 2) := by decide +kernel
theorem dX3_answer_51 : decode cX3_answer 51 = .ok (.aload_n 0, 1) := by decide +kernel
theorem dX3_answer_52 : decode cX3_answer 52 = .ok (.getfield 18, 3) := by decide +kernel
theorem dX3_answer_55 : decode cX3_answer 55 = .ok (.iload 6, 2) := by decide +kernel
theorem dX3_answer_57 : decode cX3_answer 57 = .ok (.dup2, 1) := by decide +kernel
theorem dX3_answer_58 : decode cX3_answer 58 = .ok (.iaload, 1) := by decide +kernel
theorem dX3_answer_59 : decode cX3_answer 59 = .ok (.iload 7, 2) := by decide +kernel
theorem dX3_answer_61 : decode cX3_answer 61 = .ok (.isub, 1) := by decide +kernel
theorem dX3_answer_62 : decode cX3_answer 62 = .ok (.iastore, 1) := by decide +kernel
theorem dX3_answer_63 : decode cX3_answer 63 = .ok (.iload 4, 2) := by decide +kernel
theorem dX3_answer_65 : decode cX3_answer 65 = .ok (.iload 7, 2) := by decide +kernel
theorem dX3_answer_67 : decode cX3_answer 67 = .ok (.isub, 1) := by decide +kernel
theorem dX3_answer_68 : decode cX3_answer 68 = .ok (.istore 4, 2) := by decide +kernel
theorem dX3_answer_70 : decode cX3_answer 70 = .ok (.iinc 5 1, 3) := by decide +kernel
theorem dX3_answer_73 : decode cX3_answer 73 = .ok (.goto (-67), 3) := by decide +kernel
theorem dX3_answer_76 : decode cX3_answer 76 = .ok (.iload_n 3, 1) := by decide +kernel
theorem dX3_answer_77 : decode cX3_answer 77 = .ok (.iload 4, 2) := by decide +kernel
theorem dX3_answer_79 : decode cX3_answer 79 = .ok (.isub, 1) := by decide +kernel
theorem dX3_answer_80 : decode cX3_answer 80 = .ok (.ireturn, 1) := by decide +kernel
set_option maxRecDepth 20000 in
theorem ggX3_firstToAnswer_X3_isOpenBetween : GoodIn wsX3_firstToAnswer wsX3_isOpenBetween := goodIn_r _ [6, 7, 8, 9, 20, 21, 22, 23, 24] (by decide +kernel) (by decide +kernel)
set_option maxRecDepth 20000 in
theorem gX3_firstToAnswer_X3_isOpenBetween : GoodIn wsX3_firstToAnswer (wsV RX3 32 RX3 yX3_isOpenBetween wsX3_isOpenBetween) := goodIn_app (goodIn_of _ (by decide +kernel)) ggX3_firstToAnswer_X3_isOpenBetween
set_option maxRecDepth 20000 in
theorem ggX3_firstToAnswer_X3_turn : GoodIn wsX3_firstToAnswer wsX3_turn := goodIn_r _ [13, 14, 15, 16, 17, 18, 5, 19, 20, 21, 22, 23, 24] (by decide +kernel) (by decide +kernel)
set_option maxRecDepth 20000 in
theorem gX3_firstToAnswer_X3_turn : GoodIn wsX3_firstToAnswer (wsV RX3 45 RX3 yX3_turn wsX3_turn) := goodIn_app (goodIn_of _ (by decide +kernel)) ggX3_firstToAnswer_X3_turn
theorem dX3_firstToAnswer_0 : decode cX3_firstToAnswer 0 = .ok (.iconst (-1), 1) := by decide +kernel
theorem dX3_firstToAnswer_1 : decode cX3_firstToAnswer 1 = .ok (.istore_n 3, 1) := by decide +kernel
theorem dX3_firstToAnswer_2 : decode cX3_firstToAnswer 2 = .ok (.iconst 0, 1) := by decide +kernel
theorem dX3_firstToAnswer_3 : decode cX3_firstToAnswer 3 = .ok (.istore 4, 2) := by decide +kernel
theorem dX3_firstToAnswer_5 : decode cX3_firstToAnswer 5 = .ok (.iload 4, 2) := by decide +kernel
theorem dX3_firstToAnswer_7 : decode cX3_firstToAnswer 7 = .ok (.aload_n 0, 1) := by decide +kernel
theorem dX3_firstToAnswer_8 : decode cX3_firstToAnswer 8 = .ok (.getfield 24, 3) := by decide +kernel
theorem dX3_firstToAnswer_11 : decode cX3_firstToAnswer 11 = .ok (.if_icmp .ge 42, 3) := by decide +kernel
theorem dX3_firstToAnswer_14 : decode cX3_firstToAnswer 14 = .ok (.aload_n 0, 1) := by decide +kernel
theorem dX3_firstToAnswer_15 : decode cX3_firstToAnswer 15 = .ok (.iload 4, 2) := by decide +kernel
theorem dX3_firstToAnswer_17 : decode cX3_firstToAnswer 17 = .ok (.iload_n 1, 1) := by decide +kernel
theorem dX3_firstToAnswer_18 : decode cX3_firstToAnswer 18 = .ok (.iload_n 2, 1) := by decide +kernel
theorem dX3_firstToAnswer_19 : decode cX3_firstToAnswer 19 = .ok (.invokevirtual 32, 3) := by decide +kernel
theorem dX3_firstToAnswer_22 : decode cX3_firstToAnswer 22 = .ok (.ifCond .eq 25, 3) := by decide +kernel
theorem dX3_firstToAnswer_25 : decode cX3_firstToAnswer 25 = .ok (.iload_n 3, 1) := by decide +kernel
theorem dX3_firstToAnswer_26 : decode cX3_firstToAnswer 26 = .ok (.iconst (-1), 1) := by decide +kernel
theorem dX3_firstToAnswer_27 : decode cX3_firstToAnswer 27 = .ok (.if_icmp .eq 17, 3) := by decide +kernel
theorem dX3_firstToAnswer_30 : decode cX3_firstToAnswer 30 = .ok (.aload_n 0, 1) := by decide +kernel
theorem dX3_firstToAnswer_31 : decode cX3_firstToAnswer 31 = .ok (.iload 4, 2) := by decide +kernel
theorem dX3_firstToAnswer_33 : decode cX3_firstToAnswer 33 = .ok (.invokevirtual 45, 3) := by decide +kernel
theorem dX3_firstToAnswer_36 : decode cX3_firstToAnswer 36 = .ok (.aload_n 0, 1) := by decide +kernel
theorem dX3_firstToAnswer_37 : decode cX3_firstToAnswer 37 = .ok (.iload_n 3, 1) := by decide +kernel
theorem dX3_firstToAnswer_38 : decode cX3_firstToAnswer 38 = .ok (.invokevirtual 45, 3) := by decide +kernel
theorem dX3_firstToAnswer_41 : decode cX3_firstToAnswer 41 = .ok (.if_icmp .ge 6, 3) := by decide +kernel
theorem dX3_firstToAnswer_44 : decode cX3_firstToAnswer 44 = .ok (.iload 4, 2) := by decide +kernel
theorem dX3_firstToAnswer_46 : decode cX3_firstToAnswer 46 = .ok (.istore_n 3, 1) := by decide +kernel
theorem dX3_firstToAnswer_47 : decode cX3_firstToAnswer 47 = .ok (.iinc 4 1, 3) := by decide +kernel
theorem dX3_firstToAnswer_50 : decode cX3_firstToAnswer 50 = .ok (.goto (-45), 3) := by decide +kernel
theorem dX3_firstToAnswer_53 : decode cX3_firstToAnswer 53 = .ok (.iload_n 3, 1) := by decide +kernel
theorem dX3_firstToAnswer_54 : decode cX3_firstToAnswer 54 = .ok (.ireturn, 1) := by decide +kernel
set_option maxRecDepth 20000 in
theorem ggX3_turn_X3_isLoan : GoodIn wsX3_turn wsX3_isLoan := goodIn_r _ [7, 2, 8, 9, 10, 11, 12] (by decide +kernel) (by decide +kernel)
set_option maxRecDepth 20000 in
theorem gX3_turn_X3_isLoan : GoodIn wsX3_turn (wsV RX3 28 RX3 yX3_isLoan wsX3_isLoan) := goodIn_app (goodIn_of _ (by decide +kernel)) ggX3_turn_X3_isLoan
theorem dX3_turn_0 : decode cX3_turn 0 = .ok (.aload_n 0, 1) := by decide +kernel
theorem dX3_turn_1 : decode cX3_turn 1 = .ok (.iload_n 1, 1) := by decide +kernel
theorem dX3_turn_2 : decode cX3_turn 2 = .ok (.invokevirtual 28, 3) := by decide +kernel
theorem dX3_turn_5 : decode cX3_turn 5 = .ok (.ifCond .eq 8, 3) := by decide +kernel
theorem dX3_turn_8 : decode cX3_turn 8 = .ok (.ldc 49, 2) := by decide +kernel
theorem dX3_turn_10 : decode cX3_turn 10 = .ok (.goto 9, 3) := by decide +kernel
theorem dX3_turn_13 : decode cX3_turn 13 = .ok (.aload_n 0, 1) := by decide +kernel
theorem dX3_turn_14 : decode cX3_turn 14 = .ok (.getfield 21, 3) := by decide +kernel
theorem dX3_turn_17 : decode cX3_turn 17 = .ok (.iload_n 1, 1) := by decide +kernel
theorem dX3_turn_18 : decode cX3_turn 18 = .ok (.iaload, 1) := by decide +kernel
theorem dX3_turn_19 : decode cX3_turn 19 = .ok (.ireturn, 1) := by decide +kernel
set_option maxRecDepth 20000 in
theorem ggX3_inherit_X3_isOpenBetween : GoodIn wsX3_inherit wsX3_isOpenBetween := goodIn_r _ [9, 2, 3, 4, 10, 11, 12, 13, 14] (by decide +kernel) (by decide +kernel)
set_option maxRecDepth 20000 in
theorem gX3_inherit_X3_isOpenBetween : GoodIn wsX3_inherit (wsV RX3 32 RX3 yX3_isOpenBetween wsX3_isOpenBetween) := goodIn_app (goodIn_of _ (by decide +kernel)) ggX3_inherit_X3_isOpenBetween
theorem dX3_inherit_0 : decode cX3_inherit 0 = .ok (.iconst 0, 1) := by decide +kernel
theorem dX3_inherit_1 : decode cX3_inherit 1 = .ok (.istore_n 3, 1) := by decide +kernel
theorem dX3_inherit_2 : decode cX3_inherit 2 = .ok (.iconst 0, 1) := by decide +kernel
theorem dX3_inherit_3 : decode cX3_inherit 3 = .ok (.istore 4, 2) := by decide +kernel
theorem dX3_inherit_5 : decode cX3_inherit 5 = .ok (.iload 4, 2) := by decide +kernel
theorem dX3_inherit_7 : decode cX3_inherit 7 = .ok (.aload_n 0, 1) := by decide +kernel
theorem dX3_inherit_8 : decode cX3_inherit 8 = .ok (.getfield 24, 3) := by decide +kernel
theorem dX3_inherit_11 : decode cX3_inherit 11 = .ok (.if_icmp .ge 109, 3) := by decide +kernel
theorem dX3_inherit_14 : decode cX3_inherit 14 = .ok (.aload_n 0, 1) := by decide +kernel
theorem dX3_inherit_15 : decode cX3_inherit 15 = .ok (.iload 4, 2) := by decide +kernel
theorem dX3_inherit_17 : decode cX3_inherit 17 = .ok (.iload_n 1, 1) := by decide +kernel
theorem dX3_inherit_18 : decode cX3_inherit 18 = .ok (.iload_n 2, 1) := by decide +kernel
theorem dX3_inherit_19 : decode cX3_inherit 19 = .ok (.invokevirtual 32, 3) := by decide +kernel
theorem dX3_inherit_22 : decode cX3_inherit 22 = .ok (.ifCond .ne 14, 3) := by decide +kernel
theorem dX3_inherit_25 : decode cX3_inherit 25 = .ok (.aload_n 0, 1) := by decide +kernel
theorem dX3_inherit_26 : decode cX3_inherit 26 = .ok (.iload 4, 2) := by decide +kernel
theorem dX3_inherit_28 : decode cX3_inherit 28 = .ok (.iload_n 2, 1) := by decide +kernel
theorem dX3_inherit_29 : decode cX3_inherit 29 = .ok (.iload_n 1, 1) := by decide +kernel
theorem dX3_inherit_30 : decode cX3_inherit 30 = .ok (.invokevirtual 32, 3) := by decide +kernel
theorem dX3_inherit_33 : decode cX3_inherit 33 = .ok (.ifCond .eq 14, 3) := by decide +kernel
theorem dX3_inherit_36 : decode cX3_inherit 36 = .ok (.aload_n 0, 1) := by decide +kernel
theorem dX3_inherit_37 : decode cX3_inherit 37 = .ok (.getfield 18, 3) := by decide +kernel
theorem dX3_inherit_40 : decode cX3_inherit 40 = .ok (.iload 4, 2) := by decide +kernel
theorem dX3_inherit_42 : decode cX3_inherit 42 = .ok (.iconst 0, 1) := by decide +kernel
theorem dX3_inherit_43 : decode cX3_inherit 43 = .ok (.iastore, 1) := by decide +kernel
theorem dX3_inherit_44 : decode cX3_inherit 44 = .ok (.goto 70, 3) := by decide +kernel
theorem dX3_inherit_47 : decode cX3_inherit 47 = .ok (.aload_n 0, 1) := by decide +kernel
theorem dX3_inherit_48 : decode cX3_inherit 48 = .ok (.getfield 18, 3) := by decide +kernel
theorem dX3_inherit_51 : decode cX3_inherit 51 = .ok (.iload 4, 2) := by decide +kernel
theorem dX3_inherit_53 : decode cX3_inherit 53 = .ok (.iaload, 1) := by decide +kernel
theorem dX3_inherit_54 : decode cX3_inherit 54 = .ok (.ifCond .le 28, 3) := by decide +kernel
theorem dX3_inherit_57 : decode cX3_inherit 57 = .ok (.aload_n 0, 1) := by decide +kernel
theorem dX3_inherit_58 : decode cX3_inherit 58 = .ok (.getfield 9, 3) := by decide +kernel
theorem dX3_inherit_61 : decode cX3_inherit 61 = .ok (.iload 4, 2) := by decide +kernel
theorem dX3_inherit_63 : decode cX3_inherit 63 = .ok (.iaload, 1) := by decide +kernel
theorem dX3_inherit_64 : decode cX3_inherit 64 = .ok (.iload_n 1, 1) := by decide +kernel
theorem dX3_inherit_65 : decode cX3_inherit 65 = .ok (.if_icmp .ne 17, 3) := by decide +kernel
theorem dX3_inherit_68 : decode cX3_inherit 68 = .ok (.aload_n 0, 1) := by decide +kernel
theorem dX3_inherit_69 : decode cX3_inherit 69 = .ok (.getfield 9, 3) := by decide +kernel
theorem dX3_inherit_72 : decode cX3_inherit 72 = .ok (.iload 4, 2) := by decide +kernel
theorem dX3_inherit_74 : decode cX3_inherit 74 = .ok (.iload_n 2, 1) := by decide +kernel
theorem dX3_inherit_75 : decode cX3_inherit 75 = .ok (.iastore, 1) := by decide +kernel
theorem dX3_inherit_76 : decode cX3_inherit 76 = .ok (.iinc 3 1, 3) := by decide +kernel
theorem dX3_inherit_79 : decode cX3_inherit 79 = .ok (.goto 35, 3) := by decide +kernel
theorem dX3_inherit_82 : decode cX3_inherit 82 = .ok (.aload_n 0, 1) := by decide +kernel
theorem dX3_inherit_83 : decode cX3_inherit 83 = .ok (.getfield 18, 3) := by decide +kernel
theorem dX3_inherit_86 : decode cX3_inherit 86 = .ok (.iload 4, 2) := by decide +kernel
theorem dX3_inherit_88 : decode cX3_inherit 88 = .ok (.iaload, 1) := by decide +kernel
theorem dX3_inherit_89 : decode cX3_inherit 89 = .ok (.ifCond .le 25, 3) := by decide +kernel
theorem dX3_inherit_92 : decode cX3_inherit 92 = .ok (.aload_n 0, 1) := by decide +kernel
theorem dX3_inherit_93 : decode cX3_inherit 93 = .ok (.getfield 15, 3) := by decide +kernel
theorem dX3_inherit_96 : decode cX3_inherit 96 = .ok (.iload 4, 2) := by decide +kernel
theorem dX3_inherit_98 : decode cX3_inherit 98 = .ok (.iaload, 1) := by decide +kernel
theorem dX3_inherit_99 : decode cX3_inherit 99 = .ok (.iload_n 1, 1) := by decide +kernel
theorem dX3_inherit_100 : decode cX3_inherit 100 = .ok (.if_icmp .ne 14, 3) := by decide +kernel
theorem dX3_inherit_103 : decode cX3_inherit 103 = .ok (.aload_n 0, 1) := by decide +kernel
theorem dX3_inherit_104 : decode cX3_inherit 104 = .ok (.getfield 15, 3) := by decide +kernel
theorem dX3_inherit_107 : decode cX3_inherit 107 = .ok (.iload 4, 2) := by decide +kernel
theorem dX3_inherit_109 : decode cX3_inherit 109 = .ok (.iload_n 2, 1) := by decide +kernel
theorem dX3_inherit_110 : decode cX3_inherit 110 = .ok (.iastore, 1) := by decide +kernel
theorem dX3_inherit_111 : decode cX3_inherit 111 = .ok (.iinc 3 1, 3) := by decide +kernel
theorem dX3_inherit_114 : decode cX3_inherit 114 = .ok (.iinc 4 1, 3) := by decide +kernel
theorem dX3_inherit_117 : decode cX3_inherit 117 = .ok (.goto (-112), 3) := by decide +kernel
theorem dX3_inherit_120 : decode cX3_inherit 120 = .ok (.iload_n 3, 1) := by decide +kernel
theorem dX3_inherit_121 : decode cX3_inherit 121 = .ok (.ireturn, 1) := by decide +kernel
theorem dX4_init_0 : decode cX4_init 0 = .ok (.aload_n 0, 1) := by decide +kernel
theorem dX4_init_1 : decode cX4_init 1 = .ok (.invokespecial 3, 3) := by decide +kernel
theorem dX4_init_4 : decode cX4_init 4 = .ok (.aload_n 0, 1) := by decide +kernel
theorem dX4_init_5 : decode cX4_init 5 = .ok (.bipush 12, 2) := by decide +kernel
theorem dX4_init_7 : decode cX4_init 7 = .ok (.newarray .long, 2) := by decide +kernel
theorem dX4_init_9 : decode cX4_init 9 = .ok (.putfield 9, 3) := by decide +kernel
theorem dX4_init_12 : decode cX4_init 12 = .ok (.aload_n 0, 1) := by decide +kernel
theorem dX4_init_13 : decode cX4_init 13 = .ok (.bipush 12, 2) := by decide +kernel
theorem dX4_init_15 : decode cX4_init 15 = .ok (.bipush 12, 2) := by decide +kernel
theorem dX4_init_17 : decode cX4_init 17 = .ok (.multianewarray 15 2, 4) := by decide +kernel
theorem dX4_init_21 : decode cX4_init 21 = .ok (.putfield 17, 3) := by decide +kernel
theorem dX4_init_24 : decode cX4_init 24 = .ok (.aload_n 0, 1) := by decide +kernel
theorem dX4_init_25 : decode cX4_init 25 = .ok (.bipush 12, 2) := by decide +kernel
theorem dX4_init_27 : decode cX4_init 27 = .ok (.newarray .boolean, 2) := by decide +kernel
theorem dX4_init_29 : decode cX4_init 29 = .ok (.putfield 20, 3) := by decide +kernel
theorem dX4_init_32 : decode cX4_init 32 = .ok (.aload_n 0, 1) := by decide +kernel
theorem dX4_init_33 : decode cX4_init 33 = .ok (.bipush 12, 2) := by decide +kernel
theorem dX4_init_35 : decode cX4_init 35 = .ok (.newarray .int, 2) := by decide +kernel
theorem dX4_init_37 : decode cX4_init 37 = .ok (.putfield 24, 3) := by decide +kernel
theorem dX4_init_40 : decode cX4_init 40 = .ok (.aload_n 0, 1) := by decide +kernel
theorem dX4_init_41 : decode cX4_init 41 = .ok (.bipush 12, 2) := by decide +kernel
theorem dX4_init_43 : decode cX4_init 43 = .ok (.newarray .int, 2) := by decide +kernel
theorem dX4_init_45 : decode cX4_init 45 = .ok (.putfield 28, 3) := by decide +kernel
theorem dX4_init_48 : decode cX4_init 48 = .ok (.return_, 1) := by decide +kernel
set_option maxRecDepth 20000 in
theorem ggX4_callIn_X3_isLoan : GoodIn wsX4_callIn wsX3_isLoan := goodIn_r _ [13, 14, 24, 25, 26, 27, 28] (by decide +kernel) (by decide +kernel)
set_option maxRecDepth 20000 in
theorem gX4_callIn_X3_isLoan : GoodIn wsX4_callIn (wsV RX4 42 RX3 yX3_isLoan wsX3_isLoan) := goodIn_app (goodIn_of _ (by decide +kernel)) ggX4_callIn_X3_isLoan
theorem dX4_callIn_0 : decode cX4_callIn 0 = .ok (.iconst 0, 1) := by decide +kernel
theorem dX4_callIn_1 : decode cX4_callIn 1 = .ok (.istore 4, 2) := by decide +kernel
theorem dX4_callIn_3 : decode cX4_callIn 3 = .ok (.iload 4, 2) := by decide +kernel
theorem dX4_callIn_5 : decode cX4_callIn 5 = .ok (.bipush 12, 2) := by decide +kernel
theorem dX4_callIn_7 : decode cX4_callIn 7 = .ok (.if_icmp .ge 51, 3) := by decide +kernel
theorem dX4_callIn_10 : decode cX4_callIn 10 = .ok (.aload_n 0, 1) := by decide +kernel
theorem dX4_callIn_11 : decode cX4_callIn 11 = .ok (.getfield 9, 3) := by decide +kernel
theorem dX4_callIn_14 : decode cX4_callIn 14 = .ok (.iload 4, 2) := by decide +kernel
theorem dX4_callIn_16 : decode cX4_callIn 16 = .ok (.aload_n 1, 1) := by decide +kernel
theorem dX4_callIn_17 : decode cX4_callIn 17 = .ok (.getfield 31, 3) := by decide +kernel
theorem dX4_callIn_20 : decode cX4_callIn 20 = .ok (.iload 4, 2) := by decide +kernel
theorem dX4_callIn_22 : decode cX4_callIn 22 = .ok (.iaload, 1) := by decide +kernel
theorem dX4_callIn_23 : decode cX4_callIn 23 = .ok (.i2l, 1) := by decide +kernel
theorem dX4_callIn_24 : decode cX4_callIn 24 = .ok (.lastore, 1) := by decide +kernel
theorem dX4_callIn_25 : decode cX4_callIn 25 = .ok (.iconst 0, 1) := by decide +kernel
theorem dX4_callIn_26 : decode cX4_callIn 26 = .ok (.istore 5, 2) := by decide +kernel
theorem dX4_callIn_28 : decode cX4_callIn 28 = .ok (.iload 5, 2) := by decide +kernel
theorem dX4_callIn_30 : decode cX4_callIn 30 = .ok (.bipush 12, 2) := by decide +kernel
theorem dX4_callIn_32 : decode cX4_callIn 32 = .ok (.if_icmp .ge 20, 3) := by decide +kernel
theorem dX4_callIn_35 : decode cX4_callIn 35 = .ok (.aload_n 0, 1) := by decide +kernel
theorem dX4_callIn_36 : decode cX4_callIn 36 = .ok (.getfield 17, 3) := by decide +kernel
theorem dX4_callIn_39 : decode cX4_callIn 39 = .ok (.iload 4, 2) := by decide +kernel
theorem dX4_callIn_41 : decode cX4_callIn 41 = .ok (.aaload, 1) := by decide +kernel
theorem dX4_callIn_42 : decode cX4_callIn 42 = .ok (.iload 5, 2) := by decide +kernel
theorem dX4_callIn_44 : decode cX4_callIn 44 = .ok (.lconst 0, 1) := by decide +kernel
theorem dX4_callIn_45 : decode cX4_callIn 45 = .ok (.lastore, 1) := by decide +kernel
theorem dX4_callIn_46 : decode cX4_callIn 46 = .ok (.iinc 5 1, 3) := by decide +kernel
theorem dX4_callIn_49 : decode cX4_callIn 49 = .ok (.goto (-21), 3) := by decide +kernel
theorem dX4_callIn_52 : decode cX4_callIn 52 = .ok (.iinc 4 1, 3) := by decide +kernel
theorem dX4_callIn_55 : decode cX4_callIn 55 = .ok (.goto (-52), 3) := by decide +kernel
theorem dX4_callIn_58 : decode cX4_callIn 58 = .ok (.iconst 0, 1) := by decide +kernel
theorem dX4_callIn_59 : decode cX4_callIn 59 = .ok (.istore 4, 2) := by decide +kernel
theorem dX4_callIn_61 : decode cX4_callIn 61 = .ok (.iload 4, 2) := by decide +kernel
theorem dX4_callIn_63 : decode cX4_callIn 63 = .ok (.aload_n 2, 1) := by decide +kernel
theorem dX4_callIn_64 : decode cX4_callIn 64 = .ok (.getfield 36, 3) := by decide +kernel
theorem dX4_callIn_67 : decode cX4_callIn 67 = .ok (.if_icmp .ge 60, 3) := by decide +kernel
theorem dX4_callIn_70 : decode cX4_callIn 70 = .ok (.aload_n 2, 1) := by decide +kernel
theorem dX4_callIn_71 : decode cX4_callIn 71 = .ok (.iload 4, 2) := by decide +kernel
theorem dX4_callIn_73 : decode cX4_callIn 73 = .ok (.invokevirtual 42, 3) := by decide +kernel
theorem dX4_callIn_76 : decode cX4_callIn 76 = .ok (.ifCond .ne 14, 3) := by decide +kernel
theorem dX4_callIn_79 : decode cX4_callIn 79 = .ok (.aload_n 2, 1) := by decide +kernel
theorem dX4_callIn_80 : decode cX4_callIn 80 = .ok (.getfield 46, 3) := by decide +kernel
theorem dX4_callIn_83 : decode cX4_callIn 83 = .ok (.iload 4, 2) := by decide +kernel
theorem dX4_callIn_85 : decode cX4_callIn 85 = .ok (.iaload, 1) := by decide +kernel
theorem dX4_callIn_86 : decode cX4_callIn 86 = .ok (.iload_n 3, 1) := by decide +kernel
theorem dX4_callIn_87 : decode cX4_callIn 87 = .ok (.if_icmp .gt 34, 3) := by decide +kernel
theorem dX4_callIn_90 : decode cX4_callIn 90 = .ok (.aload_n 0, 1) := by decide +kernel
theorem dX4_callIn_91 : decode cX4_callIn 91 = .ok (.getfield 17, 3) := by decide +kernel
theorem dX4_callIn_94 : decode cX4_callIn 94 = .ok (.aload_n 2, 1) := by decide +kernel
theorem dX4_callIn_95 : decode cX4_callIn 95 = .ok (.getfield 49, 3) := by decide +kernel
theorem dX4_callIn_98 : decode cX4_callIn 98 = .ok (.iload 4, 2) := by decide +kernel
theorem dX4_callIn_100 : decode cX4_callIn 100 = .ok (.iaload, 1) := by decide +kernel
theorem dX4_callIn_101 : decode cX4_callIn 101 = .ok (.aaload, 1) := by decide +kernel
theorem dX4_callIn_102 : decode cX4_callIn 102 = .ok (.aload_n 2, 1) := by decide +kernel
theorem dX4_callIn_103 : decode cX4_callIn 103 = .ok (.getfield 52, 3) := by decide +kernel
theorem dX4_callIn_106 : decode cX4_callIn 106 = .ok (.iload 4, 2) := by decide +kernel
theorem dX4_callIn_108 : decode cX4_callIn 108 = .ok (.iaload, 1) := by decide +kernel
theorem dX4_callIn_109 : decode cX4_callIn 109 = .ok (.dup2, 1) := by decide +kernel
theorem dX4_callIn_110 : decode cX4_callIn 110 = .ok (.laload, 1) := by decide +kernel
theorem dX4_callIn_111 : decode cX4_callIn 111 = .ok (.aload_n 2, 1) := by decide +kernel
theorem dX4_callIn_112 : decode cX4_callIn 112 = .ok (.getfield 55, 3) := by decide +kernel
theorem dX4_callIn_115 : decode cX4_callIn 115 = .ok (.iload 4, 2) := by decide +kernel
theorem dX4_callIn_117 : decode cX4_callIn 117 = .ok (.iaload, 1) := by decide +kernel
theorem dX4_callIn_118 : decode cX4_callIn 118 = .ok (.i2l, 1) := by decide +kernel
theorem dX4_callIn_119 : decode cX4_callIn 119 = .ok (.ladd, 1) := by decide +kernel
theorem dX4_callIn_120 : decode cX4_callIn 120 = .ok (.lastore, 1) := by decide +kernel
theorem dX4_callIn_121 : decode cX4_callIn 121 = .ok (.iinc 4 1, 3) := by decide +kernel
theorem dX4_callIn_124 : decode cX4_callIn 124 = .ok (.goto (-63), 3) := by decide +kernel
theorem dX4_callIn_127 : decode cX4_callIn 127 = .ok (.return_, 1) := by decide +kernel
set_option maxRecDepth 20000 in
theorem ggX4_most_X4_nearestGiver : GoodIn wsX4_most wsX4_nearestGiver := goodIn_r _ [6, 7, 8, 1, 9, 10, 19, 20, 21, 22, 23] (by decide +kernel) (by decide +kernel)
set_option maxRecDepth 20000 in
theorem gX4_most_X4_nearestGiver : GoodIn wsX4_most (wsV RX4 58 RX4 yX4_nearestGiver wsX4_nearestGiver) := goodIn_app (goodIn_of _ (by decide +kernel)) ggX4_most_X4_nearestGiver
set_option maxRecDepth 20000 in
theorem ggX4_most_X4_handOn : GoodIn wsX4_most wsX4_handOn := goodIn_r _ [14, 1, 9, 10, 15, 16, 17, 18, 19, 20, 21, 22, 23] (by decide +kernel) (by decide +kernel)
set_option maxRecDepth 20000 in
theorem gX4_most_X4_handOn : GoodIn wsX4_most (wsV RX4 62 RX4 yX4_handOn wsX4_handOn) := goodIn_app (goodIn_of _ (by decide +kernel)) ggX4_most_X4_handOn
theorem dX4_most_0 : decode cX4_most 0 = .ok (.aload_n 0, 1) := by decide +kernel
theorem dX4_most_1 : decode cX4_most 1 = .ok (.getfield 9, 3) := by decide +kernel
theorem dX4_most_4 : decode cX4_most 4 = .ok (.iload_n 1, 1) := by decide +kernel
theorem dX4_most_5 : decode cX4_most 5 = .ok (.laload, 1) := by decide +kernel
theorem dX4_most_6 : decode cX4_most 6 = .ok (.lstore_n 2, 1) := by decide +kernel
theorem dX4_most_7 : decode cX4_most 7 = .ok (.aload_n 0, 1) := by decide +kernel
theorem dX4_most_8 : decode cX4_most 8 = .ok (.getfield 9, 3) := by decide +kernel
theorem dX4_most_11 : decode cX4_most 11 = .ok (.iload_n 1, 1) := by decide +kernel
theorem dX4_most_12 : decode cX4_most 12 = .ok (.lconst 0, 1) := by decide +kernel
theorem dX4_most_13 : decode cX4_most 13 = .ok (.lastore, 1) := by decide +kernel
theorem dX4_most_14 : decode cX4_most 14 = .ok (.iconst 0, 1) := by decide +kernel
theorem dX4_most_15 : decode cX4_most 15 = .ok (.istore 4, 2) := by decide +kernel
theorem dX4_most_17 : decode cX4_most 17 = .ok (.iload 4, 2) := by decide +kernel
theorem dX4_most_19 : decode cX4_most 19 = .ok (.sipush 10000, 3) := by decide +kernel
theorem dX4_most_22 : decode cX4_most 22 = .ok (.if_icmp .ge 35, 3) := by decide +kernel
theorem dX4_most_25 : decode cX4_most 25 = .ok (.aload_n 0, 1) := by decide +kernel
theorem dX4_most_26 : decode cX4_most 26 = .ok (.iload_n 1, 1) := by decide +kernel
theorem dX4_most_27 : decode cX4_most 27 = .ok (.invokevirtual 58, 3) := by decide +kernel
theorem dX4_most_30 : decode cX4_most 30 = .ok (.istore 5, 2) := by decide +kernel
theorem dX4_most_32 : decode cX4_most 32 = .ok (.iload 5, 2) := by decide +kernel
theorem dX4_most_34 : decode cX4_most 34 = .ok (.iconst (-1), 1) := by decide +kernel
theorem dX4_most_35 : decode cX4_most 35 = .ok (.if_icmp .ne 6, 3) := by decide +kernel
theorem dX4_most_38 : decode cX4_most 38 = .ok (.goto 19, 3) := by decide +kernel
theorem dX4_most_41 : decode cX4_most 41 = .ok (.lload_n 2, 1) := by decide +kernel
theorem dX4_most_42 : decode cX4_most 42 = .ok (.aload_n 0, 1) := by decide +kernel
theorem dX4_most_43 : decode cX4_most 43 = .ok (.iload 5, 2) := by decide +kernel
theorem dX4_most_45 : decode cX4_most 45 = .ok (.iload_n 1, 1) := by decide +kernel
theorem dX4_most_46 : decode cX4_most 46 = .ok (.invokevirtual 62, 3) := by decide +kernel
theorem dX4_most_49 : decode cX4_most 49 = .ok (.ladd, 1) := by decide +kernel
theorem dX4_most_50 : decode cX4_most 50 = .ok (.lstore_n 2, 1) := by decide +kernel
theorem dX4_most_51 : decode cX4_most 51 = .ok (.iinc 4 1, 3) := by decide +kernel
theorem dX4_most_54 : decode cX4_most 54 = .ok (.goto (-37), 3) := by decide +kernel
theorem dX4_most_57 : decode cX4_most 57 = .ok (.lload_n 2, 1) := by decide +kernel
theorem dX4_most_58 : decode cX4_most 58 = .ok (.lreturn, 1) := by decide +kernel
theorem dX4_side_0 : decode cX4_side 0 = .ok (.iconst 0, 1) := by decide +kernel
theorem dX4_side_1 : decode cX4_side 1 = .ok (.istore_n 1, 1) := by decide +kernel
theorem dX4_side_2 : decode cX4_side 2 = .ok (.iconst 0, 1) := by decide +kernel
theorem dX4_side_3 : decode cX4_side 3 = .ok (.istore_n 2, 1) := by decide +kernel
theorem dX4_side_4 : decode cX4_side 4 = .ok (.iload_n 2, 1) := by decide +kernel
theorem dX4_side_5 : decode cX4_side 5 = .ok (.bipush 12, 2) := by decide +kernel
theorem dX4_side_7 : decode cX4_side 7 = .ok (.if_icmp .ge 28, 3) := by decide +kernel
theorem dX4_side_10 : decode cX4_side 10 = .ok (.iload_n 1, 1) := by decide +kernel
theorem dX4_side_11 : decode cX4_side 11 = .ok (.aload_n 0, 1) := by decide +kernel
theorem dX4_side_12 : decode cX4_side 12 = .ok (.getfield 20, 3) := by decide +kernel
theorem dX4_side_15 : decode cX4_side 15 = .ok (.iload_n 2, 1) := by decide +kernel
theorem dX4_side_16 : decode cX4_side 16 = .ok (.baload, 1) := by decide +kernel
theorem dX4_side_17 : decode cX4_side 17 = .ok (.ifCond .eq 9, 3) := by decide +kernel
theorem dX4_side_20 : decode cX4_side 20 = .ok (.iconst 1, 1) := by decide +kernel
end
section
theorem dX4_side_21 : decode cX4_side 21 = .ok (.iload_n 2, 1) := by decide +kernel
theorem dX4_side_22 : decode cX4_side 22 = .ok (.ishl, 1) := by decide +kernel
theorem dX4_side_23 : decode cX4_side 23 = .ok (.goto 4, 3) := by decide +kernel
theorem dX4_side_26 : decode cX4_side 26 = .ok (.iconst 0, 1) := by decide +kernel
theorem dX4_side_27 : decode cX4_side 27 = .ok (.ior, 1) := by decide +kernel
theorem dX4_side_28 : decode cX4_side 28 = .ok (.istore_n 1, 1) := by decide +kernel
theorem dX4_side_29 : decode cX4_side 29 = .ok (.iinc 2 1, 3) := by decide +kernel
theorem dX4_side_32 : decode cX4_side 32 = .ok (.goto (-28), 3) := by decide +kernel
theorem dX4_side_35 : decode cX4_side 35 = .ok (.iload_n 1, 1) := by decide +kernel
theorem dX4_side_36 : decode cX4_side 36 = .ok (.ireturn, 1) := by decide +kernel
theorem dX4_nearestGiver_0 : decode cX4_nearestGiver 0 = .ok (.iconst 0, 1) := by decide +kernel
theorem dX4_nearestGiver_1 : decode cX4_nearestGiver 1 = .ok (.istore_n 2, 1) := by decide +kernel
theorem dX4_nearestGiver_2 : decode cX4_nearestGiver 2 = .ok (.iload_n 2, 1) := by decide +kernel
theorem dX4_nearestGiver_3 : decode cX4_nearestGiver 3 = .ok (.bipush 12, 2) := by decide +kernel
theorem dX4_nearestGiver_5 : decode cX4_nearestGiver 5 = .ok (.if_icmp .ge 25, 3) := by decide +kernel
theorem dX4_nearestGiver_8 : decode cX4_nearestGiver 8 = .ok (.aload_n 0, 1) := by decide +kernel
theorem dX4_nearestGiver_9 : decode cX4_nearestGiver 9 = .ok (.getfield 20, 3) := by decide +kernel
theorem dX4_nearestGiver_12 : decode cX4_nearestGiver 12 = .ok (.iload_n 2, 1) := by decide +kernel
theorem dX4_nearestGiver_13 : decode cX4_nearestGiver 13 = .ok (.iload_n 2, 1) := by decide +kernel
theorem dX4_nearestGiver_14 : decode cX4_nearestGiver 14 = .ok (.iload_n 1, 1) := by decide +kernel
theorem dX4_nearestGiver_15 : decode cX4_nearestGiver 15 = .ok (.if_icmp .ne 7, 3) := by decide +kernel
theorem dX4_nearestGiver_18 : decode cX4_nearestGiver 18 = .ok (.iconst 1, 1) := by decide +kernel
theorem dX4_nearestGiver_19 : decode cX4_nearestGiver 19 = .ok (.goto 4, 3) := by decide +kernel
theorem dX4_nearestGiver_22 : decode cX4_nearestGiver 22 = .ok (.iconst 0, 1) := by decide +kernel
theorem dX4_nearestGiver_23 : decode cX4_nearestGiver 23 = .ok (.bastore, 1) := by decide +kernel
theorem dX4_nearestGiver_24 : decode cX4_nearestGiver 24 = .ok (.iinc 2 1, 3) := by decide +kernel
theorem dX4_nearestGiver_27 : decode cX4_nearestGiver 27 = .ok (.goto (-25), 3) := by decide +kernel
theorem dX4_nearestGiver_30 : decode cX4_nearestGiver 30 = .ok (.aload_n 0, 1) := by decide +kernel
theorem dX4_nearestGiver_31 : decode cX4_nearestGiver 31 = .ok (.getfield 28, 3) := by decide +kernel
theorem dX4_nearestGiver_34 : decode cX4_nearestGiver 34 = .ok (.iconst 0, 1) := by decide +kernel
theorem dX4_nearestGiver_35 : decode cX4_nearestGiver 35 = .ok (.iload_n 1, 1) := by decide +kernel
theorem dX4_nearestGiver_36 : decode cX4_nearestGiver 36 = .ok (.iastore, 1) := by decide +kernel
theorem dX4_nearestGiver_37 : decode cX4_nearestGiver 37 = .ok (.iconst 1, 1) := by decide +kernel
theorem dX4_nearestGiver_38 : decode cX4_nearestGiver 38 = .ok (.istore_n 2, 1) := by decide +kernel
theorem dX4_nearestGiver_39 : decode cX4_nearestGiver 39 = .ok (.iconst 0, 1) := by decide +kernel
theorem dX4_nearestGiver_40 : decode cX4_nearestGiver 40 = .ok (.istore_n 3, 1) := by decide +kernel
theorem dX4_nearestGiver_41 : decode cX4_nearestGiver 41 = .ok (.iload_n 3, 1) := by decide +kernel
theorem dX4_nearestGiver_42 : decode cX4_nearestGiver 42 = .ok (.iload_n 2, 1) := by decide +kernel
theorem dX4_nearestGiver_43 : decode cX4_nearestGiver 43 = .ok (.if_icmp .ge 101, 3) := by decide +kernel
theorem dX4_nearestGiver_46 : decode cX4_nearestGiver 46 = .ok (.aload_n 0, 1) := by decide +kernel
theorem dX4_nearestGiver_47 : decode cX4_nearestGiver 47 = .ok (.getfield 28, 3) := by decide +kernel
theorem dX4_nearestGiver_50 : decode cX4_nearestGiver 50 = .ok (.iload_n 3, 1) := by decide +kernel
theorem dX4_nearestGiver_51 : decode cX4_nearestGiver 51 = .ok (.iaload, 1) := by decide +kernel
theorem dX4_nearestGiver_52 : decode cX4_nearestGiver 52 = .ok (.istore 4, 2) := by decide +kernel
theorem dX4_nearestGiver_54 : decode cX4_nearestGiver 54 = .ok (.aload_n 0, 1) := by decide +kernel
theorem dX4_nearestGiver_55 : decode cX4_nearestGiver 55 = .ok (.getfield 9, 3) := by decide +kernel
theorem dX4_nearestGiver_58 : decode cX4_nearestGiver 58 = .ok (.iload 4, 2) := by decide +kernel
theorem dX4_nearestGiver_60 : decode cX4_nearestGiver 60 = .ok (.laload, 1) := by decide +kernel
theorem dX4_nearestGiver_61 : decode cX4_nearestGiver 61 = .ok (.lconst 0, 1) := by decide +kernel
theorem dX4_nearestGiver_62 : decode cX4_nearestGiver 62 = .ok (.lcmp, 1) := by decide +kernel
theorem dX4_nearestGiver_63 : decode cX4_nearestGiver 63 = .ok (.ifCond .le 6, 3) := by decide +kernel
theorem dX4_nearestGiver_66 : decode cX4_nearestGiver 66 = .ok (.iload 4, 2) := by decide +kernel
theorem dX4_nearestGiver_68 : decode cX4_nearestGiver 68 = .ok (.ireturn, 1) := by decide +kernel
theorem dX4_nearestGiver_69 : decode cX4_nearestGiver 69 = .ok (.iconst 0, 1) := by decide +kernel
theorem dX4_nearestGiver_70 : decode cX4_nearestGiver 70 = .ok (.istore 5, 2) := by decide +kernel
theorem dX4_nearestGiver_72 : decode cX4_nearestGiver 72 = .ok (.iload 5, 2) := by decide +kernel
theorem dX4_nearestGiver_74 : decode cX4_nearestGiver 74 = .ok (.bipush 12, 2) := by decide +kernel
theorem dX4_nearestGiver_76 : decode cX4_nearestGiver 76 = .ok (.if_icmp .ge 62, 3) := by decide +kernel
theorem dX4_nearestGiver_79 : decode cX4_nearestGiver 79 = .ok (.aload_n 0, 1) := by decide +kernel
theorem dX4_nearestGiver_80 : decode cX4_nearestGiver 80 = .ok (.getfield 20, 3) := by decide +kernel
theorem dX4_nearestGiver_83 : decode cX4_nearestGiver 83 = .ok (.iload 5, 2) := by decide +kernel
theorem dX4_nearestGiver_85 : decode cX4_nearestGiver 85 = .ok (.baload, 1) := by decide +kernel
theorem dX4_nearestGiver_86 : decode cX4_nearestGiver 86 = .ok (.ifCond .ne 46, 3) := by decide +kernel
theorem dX4_nearestGiver_89 : decode cX4_nearestGiver 89 = .ok (.aload_n 0, 1) := by decide +kernel
theorem dX4_nearestGiver_90 : decode cX4_nearestGiver 90 = .ok (.getfield 17, 3) := by decide +kernel
theorem dX4_nearestGiver_93 : decode cX4_nearestGiver 93 = .ok (.iload 5, 2) := by decide +kernel
theorem dX4_nearestGiver_95 : decode cX4_nearestGiver 95 = .ok (.aaload, 1) := by decide +kernel
theorem dX4_nearestGiver_96 : decode cX4_nearestGiver 96 = .ok (.iload 4, 2) := by decide +kernel
theorem dX4_nearestGiver_98 : decode cX4_nearestGiver 98 = .ok (.laload, 1) := by decide +kernel
theorem dX4_nearestGiver_99 : decode cX4_nearestGiver 99 = .ok (.lconst 0, 1) := by decide +kernel
theorem dX4_nearestGiver_100 : decode cX4_nearestGiver 100 = .ok (.lcmp, 1) := by decide +kernel
theorem dX4_nearestGiver_101 : decode cX4_nearestGiver 101 = .ok (.ifCond .le 31, 3) := by decide +kernel
theorem dX4_nearestGiver_104 : decode cX4_nearestGiver 104 = .ok (.aload_n 0, 1) := by decide +kernel
theorem dX4_nearestGiver_105 : decode cX4_nearestGiver 105 = .ok (.getfield 20, 3) := by decide +kernel
theorem dX4_nearestGiver_108 : decode cX4_nearestGiver 108 = .ok (.iload 5, 2) := by decide +kernel
theorem dX4_nearestGiver_110 : decode cX4_nearestGiver 110 = .ok (.iconst 1, 1) := by decide +kernel
theorem dX4_nearestGiver_111 : decode cX4_nearestGiver 111 = .ok (.bastore, 1) := by decide +kernel
theorem dX4_nearestGiver_112 : decode cX4_nearestGiver 112 = .ok (.aload_n 0, 1) := by decide +kernel
theorem dX4_nearestGiver_113 : decode cX4_nearestGiver 113 = .ok (.getfield 24, 3) := by decide +kernel
theorem dX4_nearestGiver_116 : decode cX4_nearestGiver 116 = .ok (.iload 5, 2) := by decide +kernel
theorem dX4_nearestGiver_118 : decode cX4_nearestGiver 118 = .ok (.iload 4, 2) := by decide +kernel
theorem dX4_nearestGiver_120 : decode cX4_nearestGiver 120 = .ok (.iastore, 1) := by decide +kernel
theorem dX4_nearestGiver_121 : decode cX4_nearestGiver 121 = .ok (.aload_n 0, 1) := by decide +kernel
theorem dX4_nearestGiver_122 : decode cX4_nearestGiver 122 = .ok (.getfield 28, 3) := by decide +kernel
theorem dX4_nearestGiver_125 : decode cX4_nearestGiver 125 = .ok (.iload_n 2, 1) := by decide +kernel
theorem dX4_nearestGiver_126 : decode cX4_nearestGiver 126 = .ok (.iload 5, 2) := by decide +kernel
theorem dX4_nearestGiver_128 : decode cX4_nearestGiver 128 = .ok (.iastore, 1) := by decide +kernel
theorem dX4_nearestGiver_129 : decode cX4_nearestGiver 129 = .ok (.iinc 2 1, 3) := by decide +kernel
theorem dX4_nearestGiver_132 : decode cX4_nearestGiver 132 = .ok (.iinc 5 1, 3) := by decide +kernel
theorem dX4_nearestGiver_135 : decode cX4_nearestGiver 135 = .ok (.goto (-63), 3) := by decide +kernel
theorem dX4_nearestGiver_138 : decode cX4_nearestGiver 138 = .ok (.iinc 3 1, 3) := by decide +kernel
theorem dX4_nearestGiver_141 : decode cX4_nearestGiver 141 = .ok (.goto (-100), 3) := by decide +kernel
theorem dX4_nearestGiver_144 : decode cX4_nearestGiver 144 = .ok (.iconst (-1), 1) := by decide +kernel
theorem dX4_nearestGiver_145 : decode cX4_nearestGiver 145 = .ok (.ireturn, 1) := by decide +kernel
theorem dX4_handOn_0 : decode cX4_handOn 0 = .ok (.aload_n 0, 1) := by decide +kernel
theorem dX4_handOn_1 : decode cX4_handOn 1 = .ok (.getfield 9, 3) := by decide +kernel
theorem dX4_handOn_4 : decode cX4_handOn 4 = .ok (.iload_n 1, 1) := by decide +kernel
theorem dX4_handOn_5 : decode cX4_handOn 5 = .ok (.laload, 1) := by decide +kernel
theorem dX4_handOn_6 : decode cX4_handOn 6 = .ok (.lstore_n 3, 1) := by decide +kernel
theorem dX4_handOn_7 : decode cX4_handOn 7 = .ok (.iload_n 1, 1) := by decide +kernel
theorem dX4_handOn_8 : decode cX4_handOn 8 = .ok (.istore 5, 2) := by decide +kernel
theorem dX4_handOn_10 : decode cX4_handOn 10 = .ok (.iconst 0, 1) := by decide +kernel
theorem dX4_handOn_11 : decode cX4_handOn 11 = .ok (.istore 6, 2) := by decide +kernel
theorem dX4_handOn_13 : decode cX4_handOn 13 = .ok (.iload 6, 2) := by decide +kernel
theorem dX4_handOn_15 : decode cX4_handOn 15 = .ok (.bipush 12, 2) := by decide +kernel
theorem dX4_handOn_17 : decode cX4_handOn 17 = .ok (.if_icmp .ge 44, 3) := by decide +kernel
theorem dX4_handOn_20 : decode cX4_handOn 20 = .ok (.iload 5, 2) := by decide +kernel
theorem dX4_handOn_22 : decode cX4_handOn 22 = .ok (.iload_n 2, 1) := by decide +kernel
theorem dX4_handOn_23 : decode cX4_handOn 23 = .ok (.if_icmp .eq 38, 3) := by decide +kernel
theorem dX4_handOn_26 : decode cX4_handOn 26 = .ok (.lload_n 3, 1) := by decide +kernel
theorem dX4_handOn_27 : decode cX4_handOn 27 = .ok (.aload_n 0, 1) := by decide +kernel
theorem dX4_handOn_28 : decode cX4_handOn 28 = .ok (.getfield 17, 3) := by decide +kernel
theorem dX4_handOn_31 : decode cX4_handOn 31 = .ok (.iload 5, 2) := by decide +kernel
theorem dX4_handOn_33 : decode cX4_handOn 33 = .ok (.aaload, 1) := by decide +kernel
theorem dX4_handOn_34 : decode cX4_handOn 34 = .ok (.aload_n 0, 1) := by decide +kernel
theorem dX4_handOn_35 : decode cX4_handOn 35 = .ok (.getfield 24, 3) := by decide +kernel
theorem dX4_handOn_38 : decode cX4_handOn 38 = .ok (.iload 5, 2) := by decide +kernel
theorem dX4_handOn_40 : decode cX4_handOn 40 = .ok (.iaload, 1) := by decide +kernel
theorem dX4_handOn_41 : decode cX4_handOn 41 = .ok (.laload, 1) := by decide +kernel
theorem dX4_handOn_42 : decode cX4_handOn 42 = .ok (.invokestatic 66, 3) := by decide +kernel
theorem dX4_handOn_45 : decode cX4_handOn 45 = .ok (.lstore_n 3, 1) := by decide +kernel
theorem dX4_handOn_46 : decode cX4_handOn 46 = .ok (.aload_n 0, 1) := by decide +kernel
theorem dX4_handOn_47 : decode cX4_handOn 47 = .ok (.getfield 24, 3) := by decide +kernel
theorem dX4_handOn_50 : decode cX4_handOn 50 = .ok (.iload 5, 2) := by decide +kernel
theorem dX4_handOn_52 : decode cX4_handOn 52 = .ok (.iaload, 1) := by decide +kernel
theorem dX4_handOn_53 : decode cX4_handOn 53 = .ok (.istore 5, 2) := by decide +kernel
theorem dX4_handOn_55 : decode cX4_handOn 55 = .ok (.iinc 6 1, 3) := by decide +kernel
theorem dX4_handOn_58 : decode cX4_handOn 58 = .ok (.goto (-45), 3) := by decide +kernel
theorem dX4_handOn_61 : decode cX4_handOn 61 = .ok (.aload_n 0, 1) := by decide +kernel
theorem dX4_handOn_62 : decode cX4_handOn 62 = .ok (.getfield 9, 3) := by decide +kernel
theorem dX4_handOn_65 : decode cX4_handOn 65 = .ok (.iload_n 1, 1) := by decide +kernel
theorem dX4_handOn_66 : decode cX4_handOn 66 = .ok (.dup2, 1) := by decide +kernel
theorem dX4_handOn_67 : decode cX4_handOn 67 = .ok (.laload, 1) := by decide +kernel
theorem dX4_handOn_68 : decode cX4_handOn 68 = .ok (.lload_n 3, 1) := by decide +kernel
theorem dX4_handOn_69 : decode cX4_handOn 69 = .ok (.lsub, 1) := by decide +kernel
theorem dX4_handOn_70 : decode cX4_handOn 70 = .ok (.lastore, 1) := by decide +kernel
theorem dX4_handOn_71 : decode cX4_handOn 71 = .ok (.iload_n 1, 1) := by decide +kernel
theorem dX4_handOn_72 : decode cX4_handOn 72 = .ok (.istore 5, 2) := by decide +kernel
theorem dX4_handOn_74 : decode cX4_handOn 74 = .ok (.iconst 0, 1) := by decide +kernel
theorem dX4_handOn_75 : decode cX4_handOn 75 = .ok (.istore 6, 2) := by decide +kernel
theorem dX4_handOn_77 : decode cX4_handOn 77 = .ok (.iload 6, 2) := by decide +kernel
theorem dX4_handOn_79 : decode cX4_handOn 79 = .ok (.bipush 12, 2) := by decide +kernel
theorem dX4_handOn_81 : decode cX4_handOn 81 = .ok (.if_icmp .ge 62, 3) := by decide +kernel
theorem dX4_handOn_84 : decode cX4_handOn 84 = .ok (.iload 5, 2) := by decide +kernel
theorem dX4_handOn_86 : decode cX4_handOn 86 = .ok (.iload_n 2, 1) := by decide +kernel
theorem dX4_handOn_87 : decode cX4_handOn 87 = .ok (.if_icmp .eq 56, 3) := by decide +kernel
theorem dX4_handOn_90 : decode cX4_handOn 90 = .ok (.aload_n 0, 1) := by decide +kernel
theorem dX4_handOn_91 : decode cX4_handOn 91 = .ok (.getfield 17, 3) := by decide +kernel
theorem dX4_handOn_94 : decode cX4_handOn 94 = .ok (.iload 5, 2) := by decide +kernel
theorem dX4_handOn_96 : decode cX4_handOn 96 = .ok (.aaload, 1) := by decide +kernel
theorem dX4_handOn_97 : decode cX4_handOn 97 = .ok (.aload_n 0, 1) := by decide +kernel
theorem dX4_handOn_98 : decode cX4_handOn 98 = .ok (.getfield 24, 3) := by decide +kernel
theorem dX4_handOn_101 : decode cX4_handOn 101 = .ok (.iload 5, 2) := by decide +kernel
theorem dX4_handOn_103 : decode cX4_handOn 103 = .ok (.iaload, 1) := by decide +kernel
theorem dX4_handOn_104 : decode cX4_handOn 104 = .ok (.dup2, 1) := by decide +kernel
theorem dX4_handOn_105 : decode cX4_handOn 105 = .ok (.laload, 1) := by decide +kernel
theorem dX4_handOn_106 : decode cX4_handOn 106 = .ok (.lload_n 3, 1) := by decide +kernel
theorem dX4_handOn_107 : decode cX4_handOn 107 = .ok (.lsub, 1) := by decide +kernel
theorem dX4_handOn_108 : decode cX4_handOn 108 = .ok (.lastore, 1) := by decide +kernel
theorem dX4_handOn_109 : decode cX4_handOn 109 = .ok (.aload_n 0, 1) := by decide +kernel
theorem dX4_handOn_110 : decode cX4_handOn 110 = .ok (.getfield 17, 3) := by decide +kernel
theorem dX4_handOn_113 : decode cX4_handOn 113 = .ok (.aload_n 0, 1) := by decide +kernel
theorem dX4_handOn_114 : decode cX4_handOn 114 = .ok (.getfield 24, 3) := by decide +kernel
theorem dX4_handOn_117 : decode cX4_handOn 117 = .ok (.iload 5, 2) := by decide +kernel
theorem dX4_handOn_119 : decode cX4_handOn 119 = .ok (.iaload, 1) := by decide +kernel
theorem dX4_handOn_120 : decode cX4_handOn 120 = .ok (.aaload, 1) := by decide +kernel
theorem dX4_handOn_121 : decode cX4_handOn 121 = .ok (.iload 5, 2) := by decide +kernel
theorem dX4_handOn_123 : decode cX4_handOn 123 = .ok (.dup2, 1) := by decide +kernel
theorem dX4_handOn_124 : decode cX4_handOn 124 = .ok (.laload, 1) := by decide +kernel
theorem dX4_handOn_125 : decode cX4_handOn 125 = .ok (.lload_n 3, 1) := by decide +kernel
theorem dX4_handOn_126 : decode cX4_handOn 126 = .ok (.ladd, 1) := by decide +kernel
theorem dX4_handOn_127 : decode cX4_handOn 127 = .ok (.lastore, 1) := by decide +kernel
theorem dX4_handOn_128 : decode cX4_handOn 128 = .ok (.aload_n 0, 1) := by decide +kernel
theorem dX4_handOn_129 : decode cX4_handOn 129 = .ok (.getfield 24, 3) := by decide +kernel
theorem dX4_handOn_132 : decode cX4_handOn 132 = .ok (.iload 5, 2) := by decide +kernel
theorem dX4_handOn_134 : decode cX4_handOn 134 = .ok (.iaload, 1) := by decide +kernel
theorem dX4_handOn_135 : decode cX4_handOn 135 = .ok (.istore 5, 2) := by decide +kernel
theorem dX4_handOn_137 : decode cX4_handOn 137 = .ok (.iinc 6 1, 3) := by decide +kernel
theorem dX4_handOn_140 : decode cX4_handOn 140 = .ok (.goto (-63), 3) := by decide +kernel
theorem dX4_handOn_143 : decode cX4_handOn 143 = .ok (.lload_n 3, 1) := by decide +kernel
theorem dX4_handOn_144 : decode cX4_handOn 144 = .ok (.lreturn, 1) := by decide +kernel
theorem dX5_init_0 : decode cX5_init 0 = .ok (.aload_n 0, 1) := by decide +kernel
theorem dX5_init_1 : decode cX5_init 1 = .ok (.invokespecial 3, 3) := by decide +kernel
theorem dX5_init_4 : decode cX5_init 4 = .ok (.aload_n 0, 1) := by decide +kernel
theorem dX5_init_5 : decode cX5_init 5 = .ok (.sipush 200, 3) := by decide +kernel
theorem dX5_init_8 : decode cX5_init 8 = .ok (.newarray .byte, 2) := by decide +kernel
theorem dX5_init_10 : decode cX5_init 10 = .ok (.putfield 9, 3) := by decide +kernel
theorem dX5_init_13 : decode cX5_init 13 = .ok (.aload_n 0, 1) := by decide +kernel
theorem dX5_init_14 : decode cX5_init 14 = .ok (.iconst 0, 1) := by decide +kernel
theorem dX5_init_15 : decode cX5_init 15 = .ok (.putfield 15, 3) := by decide +kernel
theorem dX5_init_18 : decode cX5_init 18 = .ok (.return_, 1) := by decide +kernel
theorem dX5_append_0 : decode cX5_append 0 = .ok (.bipush 24, 2) := by decide +kernel
theorem dX5_append_2 : decode cX5_append 2 = .ok (.istore_n 2, 1) := by decide +kernel
theorem dX5_append_3 : decode cX5_append 3 = .ok (.iload_n 2, 1) := by decide +kernel
theorem dX5_append_4 : decode cX5_append 4 = .ok (.ifCond .lt 32, 3) := by decide +kernel
theorem dX5_append_7 : decode cX5_append 7 = .ok (.aload_n 0, 1) := by decide +kernel
theorem dX5_append_8 : decode cX5_append 8 = .ok (.getfield 9, 3) := by decide +kernel
theorem dX5_append_11 : decode cX5_append 11 = .ok (.aload_n 0, 1) := by decide +kernel
theorem dX5_append_12 : decode cX5_append 12 = .ok (.getfield 15, 3) := by decide +kernel
theorem dX5_append_15 : decode cX5_append 15 = .ok (.iload_n 1, 1) := by decide +kernel
theorem dX5_append_16 : decode cX5_append 16 = .ok (.iload_n 2, 1) := by decide +kernel
theorem dX5_append_17 : decode cX5_append 17 = .ok (.ishr, 1) := by decide +kernel
theorem dX5_append_18 : decode cX5_append 18 = .ok (.i2b, 1) := by decide +kernel
theorem dX5_append_19 : decode cX5_append 19 = .ok (.bastore, 1) := by decide +kernel
theorem dX5_append_20 : decode cX5_append 20 = .ok (.aload_n 0, 1) := by decide +kernel
theorem dX5_append_21 : decode cX5_append 21 = .ok (.dup, 1) := by decide +kernel
theorem dX5_append_22 : decode cX5_append 22 = .ok (.getfield 15, 3) := by decide +kernel
theorem dX5_append_25 : decode cX5_append 25 = .ok (.iconst 1, 1) := by decide +kernel
theorem dX5_append_26 : decode cX5_append 26 = .ok (.iadd, 1) := by decide +kernel
theorem dX5_append_27 : decode cX5_append 27 = .ok (.putfield 15, 3) := by decide +kernel
theorem dX5_append_30 : decode cX5_append 30 = .ok (.iinc 2 (-8), 3) := by decide +kernel
theorem dX5_append_33 : decode cX5_append 33 = .ok (.goto (-30), 3) := by decide +kernel
theorem dX5_append_36 : decode cX5_append 36 = .ok (.return_, 1) := by decide +kernel
theorem dX6_init_0 : decode cX6_init 0 = .ok (.aload_n 0, 1) := by decide +kernel
theorem dX6_init_1 : decode cX6_init 1 = .ok (.invokespecial 3, 3) := by decide +kernel
theorem dX6_init_4 : decode cX6_init 4 = .ok (.aload_n 0, 1) := by decide +kernel
theorem dX6_init_5 : decode cX6_init 5 = .ok (.sipush 200, 3) := by decide +kernel
theorem dX6_init_8 : decode cX6_init 8 = .ok (.newarray .byte, 2) := by decide +kernel
theorem dX6_init_10 : decode cX6_init 10 = .ok (.putfield 9, 3) := by decide +kernel
theorem dX6_init_13 : decode cX6_init 13 = .ok (.return_, 1) := by decide +kernel
set_option maxRecDepth 20000 in
theorem ggX6_read_X6_skipBlanks : GoodIn wsX6_read wsX6_skipBlanks := goodIn_r _ [17, 7, 6, 1, 110, 111, 112, 113, 114, 115, 116, 117, 118, 119, 120] (by decide +kernel) (by decide +kernel)
set_option maxRecDepth 20000 in
theorem gX6_read_X6_skipBlanks : GoodIn wsX6_read (wsV RX6 43 RX6 yX6_skipBlanks wsX6_skipBlanks) := goodIn_app (goodIn_of _ (by decide +kernel)) ggX6_read_X6_skipBlanks
set_option maxRecDepth 20000 in
theorem ggX6_read_X6_readClause : GoodIn wsX6_read wsX6_readClause := goodIn_r _ [21, 7, 12, 22, 23, 24, 16, 25, 6, 1, 26, 27, 28, 29, 30, 31, 32, 33, 34, 35, 36, 37, 38, 39, 40, 41, 42, 43, 44, 45, 46, 47, 48, 49, 50, 51, 52, 53, 54, 55, 56, 57, 58, 59, 60, 61, 62, 63, 64, 65, 66, 67, 68, 69, 70, 71, 72, 73, 74, 75, 76, 77, 78, 79, 80, 81, 82, 8, 9, 83, 84, 85, 86, 87, 10, 88, 89, 90, 91, 92, 93, 94, 95, 96, 13, 14, 15, 17, 97, 98, 99, 100, 101, 102, 103, 104, 105, 106, 107, 108, 109, 11, 110, 111, 112, 113, 114, 115, 116, 117, 118, 119, 120] (by decide +kernel) (by decide +kernel)
set_option maxRecDepth 20000 in
theorem gX6_read_X6_readClause : GoodIn wsX6_read (wsV RX6 46 RX6 yX6_readClause wsX6_readClause) := goodIn_app (goodIn_of _ (by decide +kernel)) ggX6_read_X6_readClause
theorem dX6_read_0 : decode cX6_read 0 = .ok (.aload_n 1, 1) := by decide +kernel
theorem dX6_read_1 : decode cX6_read 1 = .ok (.iconst 0, 1) := by decide +kernel
theorem dX6_read_2 : decode cX6_read 2 = .ok (.aload_n 0, 1) := by decide +kernel
theorem dX6_read_3 : decode cX6_read 3 = .ok (.getfield 9, 3) := by decide +kernel
theorem dX6_read_6 : decode cX6_read 6 = .ok (.iconst 0, 1) := by decide +kernel
theorem dX6_read_7 : decode cX6_read 7 = .ok (.iload_n 2, 1) := by decide +kernel
theorem dX6_read_8 : decode cX6_read 8 = .ok (.invokestatic 15, 3) := by decide +kernel
theorem dX6_read_11 : decode cX6_read 11 = .ok (.aload_n 0, 1) := by decide +kernel
theorem dX6_read_12 : decode cX6_read 12 = .ok (.iload_n 2, 1) := by decide +kernel
theorem dX6_read_13 : decode cX6_read 13 = .ok (.putfield 21, 3) := by decide +kernel
theorem dX6_read_16 : decode cX6_read 16 = .ok (.aload_n 0, 1) := by decide +kernel
theorem dX6_read_17 : decode cX6_read 17 = .ok (.iconst 0, 1) := by decide +kernel
theorem dX6_read_18 : decode cX6_read 18 = .ok (.putfield 25, 3) := by decide +kernel
theorem dX6_read_21 : decode cX6_read 21 = .ok (.aload_n 0, 1) := by decide +kernel
theorem dX6_read_22 : decode cX6_read 22 = .ok (.iconst 0, 1) := by decide +kernel
theorem dX6_read_23 : decode cX6_read 23 = .ok (.putfield 28, 3) := by decide +kernel
theorem dX6_read_26 : decode cX6_read 26 = .ok (.aload_n 0, 1) := by decide +kernel
theorem dX6_read_27 : decode cX6_read 27 = .ok (.iconst (-1), 1) := by decide +kernel
theorem dX6_read_28 : decode cX6_read 28 = .ok (.putfield 31, 3) := by decide +kernel
theorem dX6_read_31 : decode cX6_read 31 = .ok (.aload_n 0, 1) := by decide +kernel
theorem dX6_read_32 : decode cX6_read 32 = .ok (.iconst 0, 1) := by decide +kernel
theorem dX6_read_33 : decode cX6_read 33 = .ok (.putfield 34, 3) := by decide +kernel
theorem dX6_read_36 : decode cX6_read 36 = .ok (.aload_n 0, 1) := by decide +kernel
theorem dX6_read_37 : decode cX6_read 37 = .ok (.iconst 0, 1) := by decide +kernel
theorem dX6_read_38 : decode cX6_read 38 = .ok (.putfield 37, 3) := by decide +kernel
theorem dX6_read_41 : decode cX6_read 41 = .ok (.aload_n 0, 1) := by decide +kernel
theorem dX6_read_42 : decode cX6_read 42 = .ok (.iconst 0, 1) := by decide +kernel
theorem dX6_read_43 : decode cX6_read 43 = .ok (.putfield 40, 3) := by decide +kernel
theorem dX6_read_46 : decode cX6_read 46 = .ok (.aload_n 0, 1) := by decide +kernel
theorem dX6_read_47 : decode cX6_read 47 = .ok (.invokevirtual 43, 3) := by decide +kernel
theorem dX6_read_50 : decode cX6_read 50 = .ok (.iconst 0, 1) := by decide +kernel
theorem dX6_read_51 : decode cX6_read 51 = .ok (.istore_n 3, 1) := by decide +kernel
theorem dX6_read_52 : decode cX6_read 52 = .ok (.iload_n 3, 1) := by decide +kernel
theorem dX6_read_53 : decode cX6_read 53 = .ok (.bipush 8, 2) := by decide +kernel
theorem dX6_read_55 : decode cX6_read 55 = .ok (.if_icmp .gt 37, 3) := by decide +kernel
theorem dX6_read_58 : decode cX6_read 58 = .ok (.aload_n 0, 1) := by decide +kernel
theorem dX6_read_59 : decode cX6_read 59 = .ok (.getfield 25, 3) := by decide +kernel
theorem dX6_read_62 : decode cX6_read 62 = .ok (.aload_n 0, 1) := by decide +kernel
theorem dX6_read_63 : decode cX6_read 63 = .ok (.getfield 21, 3) := by decide +kernel
theorem dX6_read_66 : decode cX6_read 66 = .ok (.if_icmp .ge 26, 3) := by decide +kernel
theorem dX6_read_69 : decode cX6_read 69 = .ok (.aload_n 0, 1) := by decide +kernel
theorem dX6_read_70 : decode cX6_read 70 = .ok (.iload_n 3, 1) := by decide +kernel
theorem dX6_read_71 : decode cX6_read 71 = .ok (.invokevirtual 46, 3) := by decide +kernel
theorem dX6_read_74 : decode cX6_read 74 = .ok (.aload_n 0, 1) := by decide +kernel
theorem dX6_read_75 : decode cX6_read 75 = .ok (.getfield 28, 3) := by decide +kernel
theorem dX6_read_78 : decode cX6_read 78 = .ok (.ifCond .eq 4, 3) := by decide +kernel
theorem dX6_read_81 : decode cX6_read 81 = .ok (.return_, 1) := by decide +kernel
theorem dX6_read_82 : decode cX6_read 82 = .ok (.aload_n 0, 1) := by decide +kernel
theorem dX6_read_83 : decode cX6_read 83 = .ok (.invokevirtual 43, 3) := by decide +kernel
theorem dX6_read_86 : decode cX6_read 86 = .ok (.iinc 3 1, 3) := by decide +kernel
theorem dX6_read_89 : decode cX6_read 89 = .ok (.goto (-37), 3) := by decide +kernel
theorem dX6_read_92 : decode cX6_read 92 = .ok (.return_, 1) := by decide +kernel
set_option maxRecDepth 20000 in
theorem ggX6_readClause_X6_skipLetters : GoodIn wsX6_readClause wsX6_skipLetters := goodIn_r _ [7, 1, 8, 9, 102, 103, 104, 105, 106, 107, 108, 109, 110, 111, 112] (by decide +kernel) (by decide +kernel)
set_option maxRecDepth 20000 in
theorem gX6_readClause_X6_skipLetters : GoodIn wsX6_readClause (wsV RX6 50 RX6 yX6_skipLetters wsX6_skipLetters) := goodIn_app (goodIn_of _ (by decide +kernel)) ggX6_readClause_X6_skipLetters
set_option maxRecDepth 20000 in
theorem ggX6_readClause_X6_spells : GoodIn wsX6_readClause wsX6_spells := goodIn_r _ [13, 1, 9, 14, 15, 16, 17, 18, 19, 20, 21, 22, 23, 24, 25, 26, 27, 28, 29, 30, 31, 32, 33, 34, 35, 36, 37, 38, 39, 40, 41, 42, 43, 44, 45, 46, 47, 48, 49, 50, 51, 52, 53, 54, 55, 56, 57, 58, 59, 60, 61, 62, 102, 103, 104, 105, 106, 107, 108, 109, 110, 111, 112] (by decide +kernel) (by decide +kernel)
set_option maxRecDepth 20000 in
theorem gX6_readClause_X6_spells : GoodIn wsX6_readClause (wsV RX6 55 RX6 yX6_spells wsX6_spells) := goodIn_app (goodIn_of _ (by decide +kernel)) ggX6_readClause_X6_spells
set_option maxRecDepth 20000 in
theorem ggX6_readClause_X6_mark : GoodIn wsX6_readClause wsX6_mark := goodIn_r _ [66, 67, 68, 102, 103, 104, 105, 106, 107, 108, 109, 110, 111, 112] (by decide +kernel) (by decide +kernel)
set_option maxRecDepth 20000 in
theorem gX6_readClause_X6_mark : GoodIn wsX6_readClause (wsV RX6 62 RX6 yX6_mark wsX6_mark) := goodIn_app (goodIn_of _ (by decide +kernel)) ggX6_readClause_X6_mark
set_option maxRecDepth 20000 in
theorem ggX6_readClause_X6_readReturn : GoodIn wsX6_readClause wsX6_readReturn := goodIn_r _ [72, 73, 74, 75, 76, 77, 78, 6, 79, 1, 8, 9, 80, 81, 82, 83, 84, 85, 86, 87, 63, 64, 65, 66, 67, 68, 88, 89, 90, 91, 92, 93, 94, 95, 3, 4, 5, 7, 10, 11, 12, 13, 14, 15, 16, 17, 18, 19, 20, 21, 22, 23, 24, 25, 26, 27, 28, 29, 30, 31, 32, 33, 34, 35, 36, 37, 38, 39, 40, 41, 42, 43, 44, 45, 46, 47, 48, 49, 50, 51, 52, 53, 54, 55, 56, 57, 58, 59, 60, 61, 62, 102, 103, 104, 105, 106, 107, 108, 109, 110, 111, 112] (by decide +kernel) (by decide +kernel)
set_option maxRecDepth 20000 in
theorem gX6_readClause_X6_readReturn : GoodIn wsX6_readClause (wsV RX6 66 RX6 yX6_readReturn wsX6_readReturn) := goodIn_app (goodIn_of _ (by decide +kernel)) ggX6_readClause_X6_readReturn
set_option maxRecDepth 20000 in
theorem ggX6_readClause_X6_readLoan : GoodIn wsX6_readClause wsX6_readLoan := goodIn_r _ [99, 100, 101, 76, 77, 78, 6, 79, 1, 8, 9, 80, 81, 82, 83, 84, 85, 86, 87, 63, 64, 65, 66, 67, 68, 88, 89, 90, 91, 102, 103, 104, 105, 106, 107, 108, 109, 110, 111, 112] (by decide +kernel) (by decide +kernel)
set_option maxRecDepth 20000 in
theorem gX6_readClause_X6_readLoan : GoodIn wsX6_readClause (wsV RX6 69 RX6 yX6_readLoan wsX6_readLoan) := goodIn_app (goodIn_of _ (by decide +kernel)) ggX6_readClause_X6_readLoan
set_option maxRecDepth 20000 in
theorem ggX6_readClause_X6_readNumber : GoodIn wsX6_readClause wsX6_readNumber := goodIn_r _ [79, 1, 8, 9, 80, 81, 82, 83, 84, 85, 86, 6, 87, 63, 64, 65, 66, 67, 68, 102, 103, 104, 105, 106, 107, 108, 109, 110, 111, 112] (by decide +kernel) (by decide +kernel)
set_option maxRecDepth 20000 in
theorem gX6_readClause_X6_readNumber : GoodIn wsX6_readClause (wsV RX6 72 RX6 yX6_readNumber wsX6_readNumber) := goodIn_app (goodIn_of _ (by decide +kernel)) ggX6_readClause_X6_readNumber
set_option maxRecDepth 20000 in
theorem ggX6_readClause_X6_readSign : GoodIn wsX6_readClause wsX6_readSign := goodIn_r _ [91, 1, 8, 9, 84, 85, 86, 6, 87, 63, 64, 65, 66, 67, 68, 102, 103, 104, 105, 106, 107, 108, 109, 110, 111, 112] (by decide +kernel) (by decide +kernel)
set_option maxRecDepth 20000 in
theorem gX6_readClause_X6_readSign : GoodIn wsX6_readClause (wsV RX6 76 RX6 yX6_readSign wsX6_readSign) := goodIn_app (goodIn_of _ (by decide +kernel)) ggX6_readClause_X6_readSign
theorem dX6_readClause_0 : decode cX6_readClause 0 = .ok (.aload_n 0, 1) := by decide +kernel
theorem dX6_readClause_1 : decode cX6_readClause 1 = .ok (.getfield 25, 3) := by decide +kernel
theorem dX6_readClause_4 : decode cX6_readClause 4 = .ok (.istore_n 2, 1) := by decide +kernel
theorem dX6_readClause_5 : decode cX6_readClause 5 = .ok (.aload_n 0, 1) := by decide +kernel
theorem dX6_readClause_6 : decode cX6_readClause 6 = .ok (.invokevirtual 50, 3) := by decide +kernel
theorem dX6_readClause_9 : decode cX6_readClause 9 = .ok (.aload_n 0, 1) := by decide +kernel
theorem dX6_readClause_10 : decode cX6_readClause 10 = .ok (.iload_n 2, 1) := by decide +kernel
theorem dX6_readClause_11 : decode cX6_readClause 11 = .ok (.ldc 53, 2) := by decide +kernel
theorem dX6_readClause_13 : decode cX6_readClause 13 = .ok (.invokevirtual 55, 3) := by decide +kernel
theorem dX6_readClause_16 : decode cX6_readClause 16 = .ok (.istore_n 3, 1) := by decide +kernel
theorem dX6_readClause_17 : decode cX6_readClause 17 = .ok (.aload_n 0, 1) := by decide +kernel
theorem dX6_readClause_18 : decode cX6_readClause 18 = .ok (.iload_n 2, 1) := by decide +kernel
theorem dX6_readClause_19 : decode cX6_readClause 19 = .ok (.ldc 59, 2) := by decide +kernel
theorem dX6_readClause_21 : decode cX6_readClause 21 = .ok (.invokevirtual 55, 3) := by decide +kernel
theorem dX6_readClause_24 : decode cX6_readClause 24 = .ok (.istore 4, 2) := by decide +kernel
theorem dX6_readClause_26 : decode cX6_readClause 26 = .ok (.aload_n 0, 1) := by decide +kernel
theorem dX6_readClause_27 : decode cX6_readClause 27 = .ok (.iload_n 2, 1) := by decide +kernel
theorem dX6_readClause_28 : decode cX6_readClause 28 = .ok (.ldc 61, 2) := by decide +kernel
theorem dX6_readClause_30 : decode cX6_readClause 30 = .ok (.invokevirtual 55, 3) := by decide +kernel
theorem dX6_readClause_33 : decode cX6_readClause 33 = .ok (.istore 5, 2) := by decide +kernel
theorem dX6_readClause_35 : decode cX6_readClause 35 = .ok (.iload_n 3, 1) := by decide +kernel
theorem dX6_readClause_36 : decode cX6_readClause 36 = .ok (.ifCond .ne 20, 3) := by decide +kernel
theorem dX6_readClause_39 : decode cX6_readClause 39 = .ok (.iload 4, 2) := by decide +kernel
theorem dX6_readClause_41 : decode cX6_readClause 41 = .ok (.ifCond .ne 15, 3) := by decide +kernel
theorem dX6_readClause_44 : decode cX6_readClause 44 = .ok (.iload 5, 2) := by decide +kernel
theorem dX6_readClause_46 : decode cX6_readClause 46 = .ok (.ifCond .ne 10, 3) := by decide +kernel
theorem dX6_readClause_49 : decode cX6_readClause 49 = .ok (.aload_n 0, 1) := by decide +kernel
theorem dX6_readClause_50 : decode cX6_readClause 50 = .ok (.iconst 1, 1) := by decide +kernel
theorem dX6_readClause_51 : decode cX6_readClause 51 = .ok (.iload_n 2, 1) := by decide +kernel
theorem dX6_readClause_52 : decode cX6_readClause 52 = .ok (.invokevirtual 62, 3) := by decide +kernel
theorem dX6_readClause_55 : decode cX6_readClause 55 = .ok (.return_, 1) := by decide +kernel
theorem dX6_readClause_56 : decode cX6_readClause 56 = .ok (.iload_n 1, 1) := by decide +kernel
theorem dX6_readClause_57 : decode cX6_readClause 57 = .ok (.bipush 8, 2) := by decide +kernel
theorem dX6_readClause_59 : decode cX6_readClause 59 = .ok (.if_icmp .ne 10, 3) := by decide +kernel
theorem dX6_readClause_62 : decode cX6_readClause 62 = .ok (.aload_n 0, 1) := by decide +kernel
theorem dX6_readClause_63 : decode cX6_readClause 63 = .ok (.iconst 3, 1) := by decide +kernel
theorem dX6_readClause_64 : decode cX6_readClause 64 = .ok (.iload_n 2, 1) := by decide +kernel
theorem dX6_readClause_65 : decode cX6_readClause 65 = .ok (.invokevirtual 62, 3) := by decide +kernel
theorem dX6_readClause_68 : decode cX6_readClause 68 = .ok (.return_, 1) := by decide +kernel
theorem dX6_readClause_69 : decode cX6_readClause 69 = .ok (.iload_n 3, 1) := by decide +kernel
theorem dX6_readClause_70 : decode cX6_readClause 70 = .ok (.ifCond .eq 10, 3) := by decide +kernel
theorem dX6_readClause_73 : decode cX6_readClause 73 = .ok (.aload_n 0, 1) := by decide +kernel
theorem dX6_readClause_74 : decode cX6_readClause 74 = .ok (.invokevirtual 66, 3) := by decide +kernel
theorem dX6_readClause_77 : decode cX6_readClause 77 = .ok (.goto 24, 3) := by decide +kernel
theorem dX6_readClause_80 : decode cX6_readClause 80 = .ok (.iload 4, 2) := by decide +kernel
theorem dX6_readClause_82 : decode cX6_readClause 82 = .ok (.ifCond .eq 10, 3) := by decide +kernel
theorem dX6_readClause_85 : decode cX6_readClause 85 = .ok (.aload_n 0, 1) := by decide +kernel
theorem dX6_readClause_86 : decode cX6_readClause 86 = .ok (.invokevirtual 69, 3) := by decide +kernel
theorem dX6_readClause_89 : decode cX6_readClause 89 = .ok (.goto 12, 3) := by decide +kernel
theorem dX6_readClause_92 : decode cX6_readClause 92 = .ok (.aload_n 0, 1) := by decide +kernel
theorem dX6_readClause_93 : decode cX6_readClause 93 = .ok (.aload_n 0, 1) := by decide +kernel
theorem dX6_readClause_94 : decode cX6_readClause 94 = .ok (.iconst 0, 1) := by decide +kernel
theorem dX6_readClause_95 : decode cX6_readClause 95 = .ok (.invokevirtual 72, 3) := by decide +kernel
theorem dX6_readClause_98 : decode cX6_readClause 98 = .ok (.putfield 40, 3) := by decide +kernel
theorem dX6_readClause_101 : decode cX6_readClause 101 = .ok (.aload_n 0, 1) := by decide +kernel
theorem dX6_readClause_102 : decode cX6_readClause 102 = .ok (.bipush 59, 2) := by decide +kernel
theorem dX6_readClause_104 : decode cX6_readClause 104 = .ok (.invokevirtual 76, 3) := by decide +kernel
theorem dX6_readClause_107 : decode cX6_readClause 107 = .ok (.return_, 1) := by decide +kernel
set_option maxRecDepth 20000 in
theorem ggX6_readReturn_X6_readNumber : GoodIn wsX6_readReturn wsX6_readNumber := goodIn_r _ [8, 9, 10, 11, 12, 13, 14, 15, 16, 17, 18, 7, 19, 20, 21, 22, 23, 24, 25, 91, 92, 93, 94, 95, 96, 97, 98, 99, 100, 101] (by decide +kernel) (by decide +kernel)
set_option maxRecDepth 20000 in
theorem gX6_readReturn_X6_readNumber : GoodIn wsX6_readReturn (wsV RX6 72 RX6 yX6_readNumber wsX6_readNumber) := goodIn_app (goodIn_of _ (by decide +kernel)) ggX6_readReturn_X6_readNumber
set_option maxRecDepth 20000 in
theorem ggX6_readReturn_X6_readSign : GoodIn wsX6_readReturn wsX6_readSign := goodIn_r _ [29, 9, 10, 11, 16, 17, 18, 7, 19, 20, 21, 22, 23, 24, 25, 91, 92, 93, 94, 95, 96, 97, 98, 99, 100, 101] (by decide +kernel) (by decide +kernel)
set_option maxRecDepth 20000 in
theorem gX6_readReturn_X6_readSign : GoodIn wsX6_readReturn (wsV RX6 76 RX6 yX6_readSign wsX6_readSign) := goodIn_app (goodIn_of _ (by decide +kernel)) ggX6_readReturn_X6_readSign
set_option maxRecDepth 20000 in
theorem ggX6_readReturn_X6_readWithin : GoodIn wsX6_readReturn wsX6_readWithin := goodIn_r _ [33, 9, 16, 17, 18, 7, 19, 10, 11, 34, 35, 36, 37, 38, 39, 40, 41, 42, 43, 44, 45, 46, 47, 48, 49, 50, 51, 52, 53, 54, 55, 56, 57, 58, 59, 60, 61, 62, 63, 64, 65, 66, 67, 68, 69, 70, 71, 72, 73, 74, 75, 76, 77, 78, 79, 80, 81, 82, 83, 84, 85, 86, 87, 88, 89, 90, 20, 21, 22, 23, 24, 25, 91, 92, 93, 94, 95, 96, 97, 98, 99, 100, 101] (by decide +kernel) (by decide +kernel)
set_option maxRecDepth 20000 in
theorem gX6_readReturn_X6_readWithin : GoodIn wsX6_readReturn (wsV RX6 83 RX6 yX6_readWithin wsX6_readWithin) := goodIn_app (goodIn_of _ (by decide +kernel)) ggX6_readReturn_X6_readWithin
theorem dX6_readReturn_0 : decode cX6_readReturn 0 = .ok (.aload_n 0, 1) := by decide +kernel
theorem dX6_readReturn_1 : decode cX6_readReturn 1 = .ok (.aload_n 0, 1) := by decide +kernel
theorem dX6_readReturn_2 : decode cX6_readReturn 2 = .ok (.iconst 0, 1) := by decide +kernel
theorem dX6_readReturn_3 : decode cX6_readReturn 3 = .ok (.invokevirtual 72, 3) := by decide +kernel
theorem dX6_readReturn_6 : decode cX6_readReturn 6 = .ok (.putfield 80, 3) := by decide +kernel
theorem dX6_readReturn_9 : decode cX6_readReturn 9 = .ok (.aload_n 0, 1) := by decide +kernel
theorem dX6_readReturn_10 : decode cX6_readReturn 10 = .ok (.bipush 47, 2) := by decide +kernel
theorem dX6_readReturn_12 : decode cX6_readReturn 12 = .ok (.invokevirtual 76, 3) := by decide +kernel
theorem dX6_readReturn_15 : decode cX6_readReturn 15 = .ok (.aload_n 0, 1) := by decide +kernel
theorem dX6_readReturn_16 : decode cX6_readReturn 16 = .ok (.aload_n 0, 1) := by decide +kernel
theorem dX6_readReturn_17 : decode cX6_readReturn 17 = .ok (.iconst 1, 1) := by decide +kernel
theorem dX6_readReturn_18 : decode cX6_readReturn 18 = .ok (.invokevirtual 72, 3) := by decide +kernel
theorem dX6_readReturn_21 : decode cX6_readReturn 21 = .ok (.putfield 34, 3) := by decide +kernel
theorem dX6_readReturn_24 : decode cX6_readReturn 24 = .ok (.aload_n 0, 1) := by decide +kernel
theorem dX6_readReturn_25 : decode cX6_readReturn 25 = .ok (.invokevirtual 83, 3) := by decide +kernel
theorem dX6_readReturn_28 : decode cX6_readReturn 28 = .ok (.aload_n 0, 1) := by decide +kernel
theorem dX6_readReturn_29 : decode cX6_readReturn 29 = .ok (.aload_n 0, 1) := by decide +kernel
theorem dX6_readReturn_30 : decode cX6_readReturn 30 = .ok (.iconst 0, 1) := by decide +kernel
theorem dX6_readReturn_31 : decode cX6_readReturn 31 = .ok (.invokevirtual 72, 3) := by decide +kernel
theorem dX6_readReturn_34 : decode cX6_readReturn 34 = .ok (.putfield 86, 3) := by decide +kernel
theorem dX6_readReturn_37 : decode cX6_readReturn 37 = .ok (.return_, 1) := by decide +kernel
set_option maxRecDepth 20000 in
theorem ggX6_readLoan_X6_readNumber : GoodIn wsX6_readLoan wsX6_readNumber := goodIn_r _ [7, 8, 9, 10, 11, 12, 13, 14, 15, 16, 17, 6, 18, 19, 20, 21, 22, 23, 24, 29, 30, 31, 32, 33, 34, 35, 36, 37, 38, 39] (by decide +kernel) (by decide +kernel)
set_option maxRecDepth 20000 in
theorem gX6_readLoan_X6_readNumber : GoodIn wsX6_readLoan (wsV RX6 72 RX6 yX6_readNumber wsX6_readNumber) := goodIn_app (goodIn_of _ (by decide +kernel)) ggX6_readLoan_X6_readNumber
set_option maxRecDepth 20000 in
theorem ggX6_readLoan_X6_readSign : GoodIn wsX6_readLoan wsX6_readSign := goodIn_r _ [28, 8, 9, 10, 15, 16, 17, 6, 18, 19, 20, 21, 22, 23, 24, 29, 30, 31, 32, 33, 34, 35, 36, 37, 38, 39] (by decide +kernel) (by decide +kernel)
set_option maxRecDepth 20000 in
theorem gX6_readLoan_X6_readSign : GoodIn wsX6_readLoan (wsV RX6 76 RX6 yX6_readSign wsX6_readSign) := goodIn_app (goodIn_of _ (by decide +kernel)) ggX6_readLoan_X6_readSign
theorem dX6_readLoan_0 : decode cX6_readLoan 0 = .ok (.aload_n 0, 1) := by decide +kernel
theorem dX6_readLoan_1 : decode cX6_readLoan 1 = .ok (.aload_n 0, 1) := by decide +kernel
theorem dX6_readLoan_2 : decode cX6_readLoan 2 = .ok (.iconst 0, 1) := by decide +kernel
theorem dX6_readLoan_3 : decode cX6_readLoan 3 = .ok (.invokevirtual 72, 3) := by decide +kernel
theorem dX6_readLoan_6 : decode cX6_readLoan 6 = .ok (.putfield 89, 3) := by decide +kernel
theorem dX6_readLoan_9 : decode cX6_readLoan 9 = .ok (.aload_n 0, 1) := by decide +kernel
theorem dX6_readLoan_10 : decode cX6_readLoan 10 = .ok (.bipush 47, 2) := by decide +kernel
theorem dX6_readLoan_12 : decode cX6_readLoan 12 = .ok (.invokevirtual 76, 3) := by decide +kernel
theorem dX6_readLoan_15 : decode cX6_readLoan 15 = .ok (.aload_n 0, 1) := by decide +kernel
theorem dX6_readLoan_16 : decode cX6_readLoan 16 = .ok (.aload_n 0, 1) := by decide +kernel
theorem dX6_readLoan_17 : decode cX6_readLoan 17 = .ok (.iconst 1, 1) := by decide +kernel
theorem dX6_readLoan_18 : decode cX6_readLoan 18 = .ok (.invokevirtual 72, 3) := by decide +kernel
theorem dX6_readLoan_21 : decode cX6_readLoan 21 = .ok (.putfield 37, 3) := by decide +kernel
theorem dX6_readLoan_24 : decode cX6_readLoan 24 = .ok (.return_, 1) := by decide +kernel
set_option maxRecDepth 20000 in
theorem ggX6_readWithin_X6_skipBlanks : GoodIn wsX6_readWithin wsX6_skipBlanks := goodIn_r _ [6, 1, 7, 8, 72, 73, 74, 75, 76, 77, 78, 79, 80, 81, 82] (by decide +kernel) (by decide +kernel)
set_option maxRecDepth 20000 in
theorem gX6_readWithin_X6_skipBlanks : GoodIn wsX6_readWithin (wsV RX6 43 RX6 yX6_skipBlanks wsX6_skipBlanks) := goodIn_app (goodIn_of _ (by decide +kernel)) ggX6_readWithin_X6_skipBlanks
set_option maxRecDepth 20000 in
theorem ggX6_readWithin_X6_skipLetters : GoodIn wsX6_readWithin wsX6_skipLetters := goodIn_r _ [12, 1, 7, 8, 72, 73, 74, 75, 76, 77, 78, 79, 80, 81, 82] (by decide +kernel) (by decide +kernel)
set_option maxRecDepth 20000 in
theorem gX6_readWithin_X6_skipLetters : GoodIn wsX6_readWithin (wsV RX6 50 RX6 yX6_skipLetters wsX6_skipLetters) := goodIn_app (goodIn_of _ (by decide +kernel)) ggX6_readWithin_X6_skipLetters
set_option maxRecDepth 20000 in
theorem ggX6_readWithin_X6_spells : GoodIn wsX6_readWithin wsX6_spells := goodIn_r _ [16, 1, 8, 17, 18, 19, 20, 21, 22, 23, 24, 25, 26, 27, 28, 29, 30, 31, 32, 33, 34, 35, 36, 37, 38, 39, 40, 41, 42, 43, 44, 45, 46, 47, 48, 49, 50, 51, 52, 53, 54, 55, 56, 57, 58, 59, 60, 61, 62, 63, 64, 65, 72, 73, 74, 75, 76, 77, 78, 79, 80, 81, 82] (by decide +kernel) (by decide +kernel)
set_option maxRecDepth 20000 in
theorem gX6_readWithin_X6_spells : GoodIn wsX6_readWithin (wsV RX6 55 RX6 yX6_spells wsX6_spells) := goodIn_app (goodIn_of _ (by decide +kernel)) ggX6_readWithin_X6_spells
set_option maxRecDepth 20000 in
theorem ggX6_readWithin_X6_mark : GoodIn wsX6_readWithin wsX6_mark := goodIn_r _ [69, 70, 71, 72, 73, 74, 75, 76, 77, 78, 79, 80, 81, 82] (by decide +kernel) (by decide +kernel)
set_option maxRecDepth 20000 in
theorem gX6_readWithin_X6_mark : GoodIn wsX6_readWithin (wsV RX6 62 RX6 yX6_mark wsX6_mark) := goodIn_app (goodIn_of _ (by decide +kernel)) ggX6_readWithin_X6_mark
theorem dX6_readWithin_0 : decode cX6_readWithin 0 = .ok (.aload_n 0, 1) := by decide +kernel
theorem dX6_readWithin_1 : decode cX6_readWithin 1 = .ok (.invokevirtual 43, 3) := by decide +kernel
theorem dX6_readWithin_4 : decode cX6_readWithin 4 = .ok (.aload_n 0, 1) := by decide +kernel
theorem dX6_readWithin_5 : decode cX6_readWithin 5 = .ok (.getfield 25, 3) := by decide +kernel
theorem dX6_readWithin_8 : decode cX6_readWithin 8 = .ok (.istore_n 1, 1) := by decide +kernel
theorem dX6_readWithin_9 : decode cX6_readWithin 9 = .ok (.aload_n 0, 1) := by decide +kernel
theorem dX6_readWithin_10 : decode cX6_readWithin 10 = .ok (.invokevirtual 50, 3) := by decide +kernel
theorem dX6_readWithin_13 : decode cX6_readWithin 13 = .ok (.aload_n 0, 1) := by decide +kernel
theorem dX6_readWithin_14 : decode cX6_readWithin 14 = .ok (.iload_n 1, 1) := by decide +kernel
theorem dX6_readWithin_15 : decode cX6_readWithin 15 = .ok (.ldc 92, 2) := by decide +kernel
theorem dX6_readWithin_17 : decode cX6_readWithin 17 = .ok (.invokevirtual 55, 3) := by decide +kernel
theorem dX6_readWithin_20 : decode cX6_readWithin 20 = .ok (.ifCond .ne 9, 3) := by decide +kernel
theorem dX6_readWithin_23 : decode cX6_readWithin 23 = .ok (.aload_n 0, 1) := by decide +kernel
theorem dX6_readWithin_24 : decode cX6_readWithin 24 = .ok (.iconst 1, 1) := by decide +kernel
theorem dX6_readWithin_25 : decode cX6_readWithin 25 = .ok (.iload_n 1, 1) := by decide +kernel
theorem dX6_readWithin_26 : decode cX6_readWithin 26 = .ok (.invokevirtual 62, 3) := by decide +kernel
theorem dX6_readWithin_29 : decode cX6_readWithin 29 = .ok (.return_, 1) := by decide +kernel
set_option maxRecDepth 20000 in
theorem ggX6_readSign_X6_skipBlanks : GoodIn wsX6_readSign wsX6_skipBlanks := goodIn_r _ [8, 1, 2, 3, 15, 16, 17, 18, 19, 20, 21, 22, 23, 24, 25] (by decide +kernel) (by decide +kernel)
set_option maxRecDepth 20000 in
theorem gX6_readSign_X6_skipBlanks : GoodIn wsX6_readSign (wsV RX6 43 RX6 yX6_skipBlanks wsX6_skipBlanks) := goodIn_app (goodIn_of _ (by decide +kernel)) ggX6_readSign_X6_skipBlanks
set_option maxRecDepth 20000 in
theorem ggX6_readSign_X6_mark : GoodIn wsX6_readSign wsX6_mark := goodIn_r _ [12, 13, 14, 15, 16, 17, 18, 19, 20, 21, 22, 23, 24, 25] (by decide +kernel) (by decide +kernel)
set_option maxRecDepth 20000 in
theorem gX6_readSign_X6_mark : GoodIn wsX6_readSign (wsV RX6 62 RX6 yX6_mark wsX6_mark) := goodIn_app (goodIn_of _ (by decide +kernel)) ggX6_readSign_X6_mark
theorem dX6_readSign_0 : decode cX6_readSign 0 = .ok (.aload_n 0, 1) := by decide +kernel
theorem dX6_readSign_1 : decode cX6_readSign 1 = .ok (.invokevirtual 43, 3) := by decide +kernel
theorem dX6_readSign_4 : decode cX6_readSign 4 = .ok (.aload_n 0, 1) := by decide +kernel
theorem dX6_readSign_5 : decode cX6_readSign 5 = .ok (.getfield 25, 3) := by decide +kernel
theorem dX6_readSign_8 : decode cX6_readSign 8 = .ok (.aload_n 0, 1) := by decide +kernel
theorem dX6_readSign_9 : decode cX6_readSign 9 = .ok (.getfield 21, 3) := by decide +kernel
theorem dX6_readSign_12 : decode cX6_readSign 12 = .ok (.if_icmp .ge 29, 3) := by decide +kernel
theorem dX6_readSign_15 : decode cX6_readSign 15 = .ok (.aload_n 0, 1) := by decide +kernel
theorem dX6_readSign_16 : decode cX6_readSign 16 = .ok (.getfield 9, 3) := by decide +kernel
theorem dX6_readSign_19 : decode cX6_readSign 19 = .ok (.aload_n 0, 1) := by decide +kernel
theorem dX6_readSign_20 : decode cX6_readSign 20 = .ok (.getfield 25, 3) := by decide +kernel
theorem dX6_readSign_23 : decode cX6_readSign 23 = .ok (.baload, 1) := by decide +kernel
theorem dX6_readSign_24 : decode cX6_readSign 24 = .ok (.iload_n 1, 1) := by decide +kernel
theorem dX6_readSign_25 : decode cX6_readSign 25 = .ok (.if_icmp .ne 16, 3) := by decide +kernel
theorem dX6_readSign_28 : decode cX6_readSign 28 = .ok (.aload_n 0, 1) := by decide +kernel
theorem dX6_readSign_29 : decode cX6_readSign 29 = .ok (.dup, 1) := by decide +kernel
theorem dX6_readSign_30 : decode cX6_readSign 30 = .ok (.getfield 25, 3) := by decide +kernel
theorem dX6_readSign_33 : decode cX6_readSign 33 = .ok (.iconst 1, 1) := by decide +kernel
theorem dX6_readSign_34 : decode cX6_readSign 34 = .ok (.iadd, 1) := by decide +kernel
theorem dX6_readSign_35 : decode cX6_readSign 35 = .ok (.putfield 25, 3) := by decide +kernel
theorem dX6_readSign_38 : decode cX6_readSign 38 = .ok (.goto 12, 3) := by decide +kernel
theorem dX6_readSign_41 : decode cX6_readSign 41 = .ok (.aload_n 0, 1) := by decide +kernel
theorem dX6_readSign_42 : decode cX6_readSign 42 = .ok (.iconst 1, 1) := by decide +kernel
theorem dX6_readSign_43 : decode cX6_readSign 43 = .ok (.aload_n 0, 1) := by decide +kernel
theorem dX6_readSign_44 : decode cX6_readSign 44 = .ok (.getfield 25, 3) := by decide +kernel
theorem dX6_readSign_47 : decode cX6_readSign 47 = .ok (.invokevirtual 62, 3) := by decide +kernel
theorem dX6_readSign_50 : decode cX6_readSign 50 = .ok (.return_, 1) := by decide +kernel
set_option maxRecDepth 20000 in
theorem ggX6_readNumber_X6_skipBlanks : GoodIn wsX6_readNumber wsX6_skipBlanks := goodIn_r _ [12, 1, 2, 3, 19, 20, 21, 22, 23, 24, 25, 26, 27, 28, 29] (by decide +kernel) (by decide +kernel)
set_option maxRecDepth 20000 in
theorem gX6_readNumber_X6_skipBlanks : GoodIn wsX6_readNumber (wsV RX6 43 RX6 yX6_skipBlanks wsX6_skipBlanks) := goodIn_app (goodIn_of _ (by decide +kernel)) ggX6_readNumber_X6_skipBlanks
set_option maxRecDepth 20000 in
theorem ggX6_readNumber_X6_mark : GoodIn wsX6_readNumber wsX6_mark := goodIn_r _ [16, 17, 18, 19, 20, 21, 22, 23, 24, 25, 26, 27, 28, 29] (by decide +kernel) (by decide +kernel)
set_option maxRecDepth 20000 in
theorem gX6_readNumber_X6_mark : GoodIn wsX6_readNumber (wsV RX6 62 RX6 yX6_mark wsX6_mark) := goodIn_app (goodIn_of _ (by decide +kernel)) ggX6_readNumber_X6_mark
theorem dX6_readNumber_0 : decode cX6_readNumber 0 = .ok (.aload_n 0, 1) := by decide +kernel
theorem dX6_readNumber_1 : decode cX6_readNumber 1 = .ok (.invokevirtual 43, 3) := by decide +kernel
theorem dX6_readNumber_4 : decode cX6_readNumber 4 = .ok (.aload_n 0, 1) := by decide +kernel
theorem dX6_readNumber_5 : decode cX6_readNumber 5 = .ok (.getfield 25, 3) := by decide +kernel
theorem dX6_readNumber_8 : decode cX6_readNumber 8 = .ok (.istore_n 2, 1) := by decide +kernel
theorem dX6_readNumber_9 : decode cX6_readNumber 9 = .ok (.iconst 0, 1) := by decide +kernel
theorem dX6_readNumber_10 : decode cX6_readNumber 10 = .ok (.istore_n 3, 1) := by decide +kernel
theorem dX6_readNumber_11 : decode cX6_readNumber 11 = .ok (.aload_n 0, 1) := by decide +kernel
theorem dX6_readNumber_12 : decode cX6_readNumber 12 = .ok (.getfield 25, 3) := by decide +kernel
theorem dX6_readNumber_15 : decode cX6_readNumber 15 = .ok (.aload_n 0, 1) := by decide +kernel
theorem dX6_readNumber_16 : decode cX6_readNumber 16 = .ok (.getfield 21, 3) := by decide +kernel
theorem dX6_readNumber_19 : decode cX6_readNumber 19 = .ok (.if_icmp .ge 68, 3) := by decide +kernel
theorem dX6_readNumber_22 : decode cX6_readNumber 22 = .ok (.aload_n 0, 1) := by decide +kernel
theorem dX6_readNumber_23 : decode cX6_readNumber 23 = .ok (.getfield 9, 3) := by decide +kernel
theorem dX6_readNumber_26 : decode cX6_readNumber 26 = .ok (.aload_n 0, 1) := by decide +kernel
theorem dX6_readNumber_27 : decode cX6_readNumber 27 = .ok (.getfield 25, 3) := by decide +kernel
theorem dX6_readNumber_30 : decode cX6_readNumber 30 = .ok (.baload, 1) := by decide +kernel
theorem dX6_readNumber_31 : decode cX6_readNumber 31 = .ok (.bipush 48, 2) := by decide +kernel
theorem dX6_readNumber_33 : decode cX6_readNumber 33 = .ok (.if_icmp .lt 54, 3) := by decide +kernel
theorem dX6_readNumber_36 : decode cX6_readNumber 36 = .ok (.aload_n 0, 1) := by decide +kernel
theorem dX6_readNumber_37 : decode cX6_readNumber 37 = .ok (.getfield 9, 3) := by decide +kernel
theorem dX6_readNumber_40 : decode cX6_readNumber 40 = .ok (.aload_n 0, 1) := by decide +kernel
theorem dX6_readNumber_41 : decode cX6_readNumber 41 = .ok (.getfield 25, 3) := by decide +kernel
theorem dX6_readNumber_44 : decode cX6_readNumber 44 = .ok (.baload, 1) := by decide +kernel
theorem dX6_readNumber_45 : decode cX6_readNumber 45 = .ok (.bipush 57, 2) := by decide +kernel
theorem dX6_readNumber_47 : decode cX6_readNumber 47 = .ok (.if_icmp .gt 40, 3) := by decide +kernel
theorem dX6_readNumber_50 : decode cX6_readNumber 50 = .ok (.iload_n 3, 1) := by decide +kernel
theorem dX6_readNumber_51 : decode cX6_readNumber 51 = .ok (.bipush 10, 2) := by decide +kernel
theorem dX6_readNumber_53 : decode cX6_readNumber 53 = .ok (.imul, 1) := by decide +kernel
theorem dX6_readNumber_54 : decode cX6_readNumber 54 = .ok (.aload_n 0, 1) := by decide +kernel
theorem dX6_readNumber_55 : decode cX6_readNumber 55 = .ok (.getfield 9, 3) := by decide +kernel
theorem dX6_readNumber_58 : decode cX6_readNumber 58 = .ok (.aload_n 0, 1) := by decide +kernel
theorem dX6_readNumber_59 : decode cX6_readNumber 59 = .ok (.getfield 25, 3) := by decide +kernel
theorem dX6_readNumber_62 : decode cX6_readNumber 62 = .ok (.baload, 1) := by decide +kernel
theorem dX6_readNumber_63 : decode cX6_readNumber 63 = .ok (.iadd, 1) := by decide +kernel
theorem dX6_readNumber_64 : decode cX6_readNumber 64 = .ok (.bipush 48, 2) := by decide +kernel
theorem dX6_readNumber_66 : decode cX6_readNumber 66 = .ok (.isub, 1) := by decide +kernel
theorem dX6_readNumber_67 : decode cX6_readNumber 67 = .ok (.sipush 1001, 3) := by decide +kernel
theorem dX6_readNumber_70 : decode cX6_readNumber 70 = .ok (.invokestatic 93, 3) := by decide +kernel
theorem dX6_readNumber_73 : decode cX6_readNumber 73 = .ok (.istore_n 3, 1) := by decide +kernel
theorem dX6_readNumber_74 : decode cX6_readNumber 74 = .ok (.aload_n 0, 1) := by decide +kernel
theorem dX6_readNumber_75 : decode cX6_readNumber 75 = .ok (.dup, 1) := by decide +kernel
theorem dX6_readNumber_76 : decode cX6_readNumber 76 = .ok (.getfield 25, 3) := by decide +kernel
theorem dX6_readNumber_79 : decode cX6_readNumber 79 = .ok (.iconst 1, 1) := by decide +kernel
theorem dX6_readNumber_80 : decode cX6_readNumber 80 = .ok (.iadd, 1) := by decide +kernel
theorem dX6_readNumber_81 : decode cX6_readNumber 81 = .ok (.putfield 25, 3) := by decide +kernel
theorem dX6_readNumber_84 : decode cX6_readNumber 84 = .ok (.goto (-73), 3) := by decide +kernel
theorem dX6_readNumber_87 : decode cX6_readNumber 87 = .ok (.aload_n 0, 1) := by decide +kernel
theorem dX6_readNumber_88 : decode cX6_readNumber 88 = .ok (.getfield 25, 3) := by decide +kernel
theorem dX6_readNumber_91 : decode cX6_readNumber 91 = .ok (.iload_n 2, 1) := by decide +kernel
theorem dX6_readNumber_92 : decode cX6_readNumber 92 = .ok (.if_icmp .ne 12, 3) := by decide +kernel
theorem dX6_readNumber_95 : decode cX6_readNumber 95 = .ok (.aload_n 0, 1) := by decide +kernel
theorem dX6_readNumber_96 : decode cX6_readNumber 96 = .ok (.iconst 1, 1) := by decide +kernel
theorem dX6_readNumber_97 : decode cX6_readNumber 97 = .ok (.iload_n 2, 1) := by decide +kernel
theorem dX6_readNumber_98 : decode cX6_readNumber 98 = .ok (.invokevirtual 62, 3) := by decide +kernel
theorem dX6_readNumber_101 : decode cX6_readNumber 101 = .ok (.goto 21, 3) := by decide +kernel
theorem dX6_readNumber_104 : decode cX6_readNumber 104 = .ok (.iload_n 3, 1) := by decide +kernel
theorem dX6_readNumber_105 : decode cX6_readNumber 105 = .ok (.iload_n 1, 1) := by decide +kernel
theorem dX6_readNumber_106 : decode cX6_readNumber 106 = .ok (.if_icmp .lt 10, 3) := by decide +kernel
theorem dX6_readNumber_109 : decode cX6_readNumber 109 = .ok (.iload_n 3, 1) := by decide +kernel
theorem dX6_readNumber_110 : decode cX6_readNumber 110 = .ok (.sipush 1000, 3) := by decide +kernel
theorem dX6_readNumber_113 : decode cX6_readNumber 113 = .ok (.if_icmp .le 9, 3) := by decide +kernel
theorem dX6_readNumber_116 : decode cX6_readNumber 116 = .ok (.aload_n 0, 1) := by decide +kernel
theorem dX6_readNumber_117 : decode cX6_readNumber 117 = .ok (.iconst 2, 1) := by decide +kernel
theorem dX6_readNumber_118 : decode cX6_readNumber 118 = .ok (.iload_n 2, 1) := by decide +kernel
theorem dX6_readNumber_119 : decode cX6_readNumber 119 = .ok (.invokevirtual 62, 3) := by decide +kernel
theorem dX6_readNumber_122 : decode cX6_readNumber 122 = .ok (.iload_n 3, 1) := by decide +kernel
theorem dX6_readNumber_123 : decode cX6_readNumber 123 = .ok (.ireturn, 1) := by decide +kernel
theorem dX6_skipBlanks_0 : decode cX6_skipBlanks 0 = .ok (.aload_n 0, 1) := by decide +kernel
theorem dX6_skipBlanks_1 : decode cX6_skipBlanks 1 = .ok (.getfield 25, 3) := by decide +kernel
theorem dX6_skipBlanks_4 : decode cX6_skipBlanks 4 = .ok (.aload_n 0, 1) := by decide +kernel
theorem dX6_skipBlanks_5 : decode cX6_skipBlanks 5 = .ok (.getfield 21, 3) := by decide +kernel
theorem dX6_skipBlanks_8 : decode cX6_skipBlanks 8 = .ok (.if_icmp .ge 30, 3) := by decide +kernel
theorem dX6_skipBlanks_11 : decode cX6_skipBlanks 11 = .ok (.aload_n 0, 1) := by decide +kernel
theorem dX6_skipBlanks_12 : decode cX6_skipBlanks 12 = .ok (.getfield 9, 3) := by decide +kernel
theorem dX6_skipBlanks_15 : decode cX6_skipBlanks 15 = .ok (.aload_n 0, 1) := by decide +kernel
theorem dX6_skipBlanks_16 : decode cX6_skipBlanks 16 = .ok (.getfield 25, 3) := by decide +kernel
theorem dX6_skipBlanks_19 : decode cX6_skipBlanks 19 = .ok (.baload, 1) := by decide +kernel
theorem dX6_skipBlanks_20 : decode cX6_skipBlanks 20 = .ok (.bipush 32, 2) := by decide +kernel
theorem dX6_skipBlanks_22 : decode cX6_skipBlanks 22 = .ok (.if_icmp .ne 16, 3) := by decide +kernel
theorem dX6_skipBlanks_25 : decode cX6_skipBlanks 25 = .ok (.aload_n 0, 1) := by decide +kernel
theorem dX6_skipBlanks_26 : decode cX6_skipBlanks 26 = .ok (.dup, 1) := by decide +kernel
theorem dX6_skipBlanks_27 : decode cX6_skipBlanks 27 = .ok (.getfield 25, 3) := by decide +kernel
theorem dX6_skipBlanks_30 : decode cX6_skipBlanks 30 = .ok (.iconst 1, 1) := by decide +kernel
theorem dX6_skipBlanks_31 : decode cX6_skipBlanks 31 = .ok (.iadd, 1) := by decide +kernel
theorem dX6_skipBlanks_32 : decode cX6_skipBlanks 32 = .ok (.putfield 25, 3) := by decide +kernel
theorem dX6_skipBlanks_35 : decode cX6_skipBlanks 35 = .ok (.goto (-35), 3) := by decide +kernel
theorem dX6_skipBlanks_38 : decode cX6_skipBlanks 38 = .ok (.return_, 1) := by decide +kernel
theorem dX6_skipLetters_0 : decode cX6_skipLetters 0 = .ok (.aload_n 0, 1) := by decide +kernel
theorem dX6_skipLetters_1 : decode cX6_skipLetters 1 = .ok (.getfield 25, 3) := by decide +kernel
theorem dX6_skipLetters_4 : decode cX6_skipLetters 4 = .ok (.aload_n 0, 1) := by decide +kernel
theorem dX6_skipLetters_5 : decode cX6_skipLetters 5 = .ok (.getfield 21, 3) := by decide +kernel
theorem dX6_skipLetters_8 : decode cX6_skipLetters 8 = .ok (.if_icmp .ge 44, 3) := by decide +kernel
theorem dX6_skipLetters_11 : decode cX6_skipLetters 11 = .ok (.aload_n 0, 1) := by decide +kernel
theorem dX6_skipLetters_12 : decode cX6_skipLetters 12 = .ok (.getfield 9, 3) := by decide +kernel
theorem dX6_skipLetters_15 : decode cX6_skipLetters 15 = .ok (.aload_n 0, 1) := by decide +kernel
theorem dX6_skipLetters_16 : decode cX6_skipLetters 16 = .ok (.getfield 25, 3) := by decide +kernel
theorem dX6_skipLetters_19 : decode cX6_skipLetters 19 = .ok (.baload, 1) := by decide +kernel
theorem dX6_skipLetters_20 : decode cX6_skipLetters 20 = .ok (.bipush 97, 2) := by decide +kernel
theorem dX6_skipLetters_22 : decode cX6_skipLetters 22 = .ok (.if_icmp .lt 30, 3) := by decide +kernel
theorem dX6_skipLetters_25 : decode cX6_skipLetters 25 = .ok (.aload_n 0, 1) := by decide +kernel
theorem dX6_skipLetters_26 : decode cX6_skipLetters 26 = .ok (.getfield 9, 3) := by decide +kernel
theorem dX6_skipLetters_29 : decode cX6_skipLetters 29 = .ok (.aload_n 0, 1) := by decide +kernel
theorem dX6_skipLetters_30 : decode cX6_skipLetters 30 = .ok (.getfield 25, 3) := by decide +kernel
theorem dX6_skipLetters_33 : decode cX6_skipLetters 33 = .ok (.baload, 1) := by decide +kernel
theorem dX6_skipLetters_34 : decode cX6_skipLetters 34 = .ok (.bipush 122, 2) := by decide +kernel
theorem dX6_skipLetters_36 : decode cX6_skipLetters 36 = .ok (.if_icmp .gt 16, 3) := by decide +kernel
theorem dX6_skipLetters_39 : decode cX6_skipLetters 39 = .ok (.aload_n 0, 1) := by decide +kernel
theorem dX6_skipLetters_40 : decode cX6_skipLetters 40 = .ok (.dup, 1) := by decide +kernel
theorem dX6_skipLetters_41 : decode cX6_skipLetters 41 = .ok (.getfield 25, 3) := by decide +kernel
theorem dX6_skipLetters_44 : decode cX6_skipLetters 44 = .ok (.iconst 1, 1) := by decide +kernel
theorem dX6_skipLetters_45 : decode cX6_skipLetters 45 = .ok (.iadd, 1) := by decide +kernel
theorem dX6_skipLetters_46 : decode cX6_skipLetters 46 = .ok (.putfield 25, 3) := by decide +kernel
theorem dX6_skipLetters_49 : decode cX6_skipLetters 49 = .ok (.goto (-49), 3) := by decide +kernel
theorem dX6_skipLetters_52 : decode cX6_skipLetters 52 = .ok (.return_, 1) := by decide +kernel
set_option maxRecDepth 20000 in
theorem ggX6_spells_J0_length_8abf5 : GoodIn wsX6_spells wsJ0_length_8abf5 := goodIn_r _ [7, 8, 9, 10, 11, 6, 12, 13, 14] (by decide +kernel) (by decide +kernel)
set_option maxRecDepth 20000 in
theorem gX6_spells_J0_length_8abf5 : GoodIn wsX6_spells (wsV RX6 99 RJ0 yJ0_length_8abf5 wsJ0_length_8abf5) := goodIn_app (goodIn_of _ (by decide +kernel)) ggX6_spells_J0_length_8abf5
set_option maxRecDepth 20000 in
theorem ggX6_spells_J0_charAt_5068e : GoodIn wsX6_spells wsJ0_charAt_5068e := goodIn_r _ [18, 8, 19, 20, 21, 6, 22, 13, 14, 23, 24, 25, 26, 27, 28, 29, 30, 31, 32, 33, 34, 35, 36, 37, 38, 39, 40, 41, 42, 43, 44, 45, 46, 47, 48, 49, 50, 51] (by decide +kernel) (by decide +kernel)
set_option maxRecDepth 20000 in
theorem gX6_spells_J0_charAt_5068e : GoodIn wsX6_spells (wsV RX6 104 RJ0 yJ0_charAt_5068e wsJ0_charAt_5068e) := goodIn_app (goodIn_of _ (by decide +kernel)) ggX6_spells_J0_charAt_5068e
theorem dX6_spells_0 : decode cX6_spells 0 = .ok (.aload_n 0, 1) := by decide +kernel
theorem dX6_spells_1 : decode cX6_spells 1 = .ok (.getfield 25, 3) := by decide +kernel
theorem dX6_spells_4 : decode cX6_spells 4 = .ok (.iload_n 1, 1) := by decide +kernel
theorem dX6_spells_5 : decode cX6_spells 5 = .ok (.isub, 1) := by decide +kernel
theorem dX6_spells_6 : decode cX6_spells 6 = .ok (.aload_n 2, 1) := by decide +kernel
theorem dX6_spells_7 : decode cX6_spells 7 = .ok (.invokevirtual 99, 3) := by decide +kernel
theorem dX6_spells_10 : decode cX6_spells 10 = .ok (.if_icmp .eq 5, 3) := by decide +kernel
theorem dX6_spells_13 : decode cX6_spells 13 = .ok (.iconst 0, 1) := by decide +kernel
theorem dX6_spells_14 : decode cX6_spells 14 = .ok (.ireturn, 1) := by decide +kernel
theorem dX6_spells_15 : decode cX6_spells 15 = .ok (.iconst 0, 1) := by decide +kernel
theorem dX6_spells_16 : decode cX6_spells 16 = .ok (.istore_n 3, 1) := by decide +kernel
theorem dX6_spells_17 : decode cX6_spells 17 = .ok (.iload_n 3, 1) := by decide +kernel
theorem dX6_spells_18 : decode cX6_spells 18 = .ok (.aload_n 2, 1) := by decide +kernel
theorem dX6_spells_19 : decode cX6_spells 19 = .ok (.invokevirtual 99, 3) := by decide +kernel
theorem dX6_spells_22 : decode cX6_spells 22 = .ok (.if_icmp .ge 27, 3) := by decide +kernel
theorem dX6_spells_25 : decode cX6_spells 25 = .ok (.aload_n 0, 1) := by decide +kernel
theorem dX6_spells_26 : decode cX6_spells 26 = .ok (.getfield 9, 3) := by decide +kernel
theorem dX6_spells_29 : decode cX6_spells 29 = .ok (.iload_n 1, 1) := by decide +kernel
theorem dX6_spells_30 : decode cX6_spells 30 = .ok (.iload_n 3, 1) := by decide +kernel
theorem dX6_spells_31 : decode cX6_spells 31 = .ok (.iadd, 1) := by decide +kernel
theorem dX6_spells_32 : decode cX6_spells 32 = .ok (.baload, 1) := by decide +kernel
theorem dX6_spells_33 : decode cX6_spells 33 = .ok (.aload_n 2, 1) := by decide +kernel
theorem dX6_spells_34 : decode cX6_spells 34 = .ok (.iload_n 3, 1) := by decide +kernel
theorem dX6_spells_35 : decode cX6_spells 35 = .ok (.invokevirtual 104, 3) := by decide +kernel
theorem dX6_spells_38 : decode cX6_spells 38 = .ok (.if_icmp .eq 5, 3) := by decide +kernel
theorem dX6_spells_41 : decode cX6_spells 41 = .ok (.iconst 0, 1) := by decide +kernel
theorem dX6_spells_42 : decode cX6_spells 42 = .ok (.ireturn, 1) := by decide +kernel
theorem dX6_spells_43 : decode cX6_spells 43 = .ok (.iinc 3 1, 3) := by decide +kernel
theorem dX6_spells_46 : decode cX6_spells 46 = .ok (.goto (-29), 3) := by decide +kernel
theorem dX6_spells_49 : decode cX6_spells 49 = .ok (.iconst 1, 1) := by decide +kernel
theorem dX6_spells_50 : decode cX6_spells 50 = .ok (.ireturn, 1) := by decide +kernel
theorem dX6_mark_0 : decode cX6_mark 0 = .ok (.aload_n 0, 1) := by decide +kernel
theorem dX6_mark_1 : decode cX6_mark 1 = .ok (.getfield 28, 3) := by decide +kernel
theorem dX6_mark_4 : decode cX6_mark 4 = .ok (.ifCond .ne 13, 3) := by decide +kernel
theorem dX6_mark_7 : decode cX6_mark 7 = .ok (.aload_n 0, 1) := by decide +kernel
theorem dX6_mark_8 : decode cX6_mark 8 = .ok (.iload_n 1, 1) := by decide +kernel
theorem dX6_mark_9 : decode cX6_mark 9 = .ok (.putfield 28, 3) := by decide +kernel
theorem dX6_mark_12 : decode cX6_mark 12 = .ok (.aload_n 0, 1) := by decide +kernel
theorem dX6_mark_13 : decode cX6_mark 13 = .ok (.iload_n 2, 1) := by decide +kernel
theorem dX6_mark_14 : decode cX6_mark 14 = .ok (.putfield 31, 3) := by decide +kernel
theorem dX6_mark_17 : decode cX6_mark 17 = .ok (.return_, 1) := by decide +kernel
set_option maxRecDepth 20000 in
theorem ggX7_init_X5_init : GoodIn wsX7_init wsX5_init := goodIn_r _ [35, 36, 2, 3, 37, 38, 39, 89, 90] (by decide +kernel) (by decide +kernel)
set_option maxRecDepth 20000 in
theorem gX7_init_X5_init_n9 : GoodIn wsX7_init (wsX5_init) := ggX7_init_X5_init
set_option maxRecDepth 20000 in
theorem ggX7_init_X6_init : GoodIn wsX7_init wsX6_init := goodIn_r _ [41, 42, 2, 3, 37, 43, 100, 101, 102, 103, 104, 105, 106, 107, 108, 109, 110] (by decide +kernel) (by decide +kernel)
set_option maxRecDepth 20000 in
theorem gX7_init_X6_init_n18 : GoodIn wsX7_init (wsX6_init) := ggX7_init_X6_init
set_option maxRecDepth 20000 in
theorem ggX7_init_X2_init : GoodIn wsX7_init wsX2_init := goodIn_r _ [45, 46, 2, 3, 47, 48, 49, 50, 51, 52, 53, 54, 55, 111, 112, 113, 114, 115, 116, 117, 118] (by decide +kernel) (by decide +kernel)
set_option maxRecDepth 20000 in
theorem gX7_init_X2_init_n25 : GoodIn wsX7_init (wsX2_init) := ggX7_init_X2_init
set_option maxRecDepth 20000 in
theorem ggX7_init_X0_init : GoodIn wsX7_init wsX0_init := goodIn_r _ [57, 58, 2, 3, 47, 59, 60, 61, 62, 63, 64, 119, 120, 121, 122] (by decide +kernel) (by decide +kernel)
set_option maxRecDepth 20000 in
theorem gX7_init_X0_init_n32 : GoodIn wsX7_init (wsX0_init) := ggX7_init_X0_init
set_option maxRecDepth 20000 in
theorem ggX7_init_X3_init : GoodIn wsX7_init wsX3_init := goodIn_r _ [66, 67, 2, 3, 47, 68, 69, 70, 71, 72, 123, 124, 125, 126, 127] (by decide +kernel) (by decide +kernel)
set_option maxRecDepth 20000 in
theorem gX7_init_X3_init_n39 : GoodIn wsX7_init (wsX3_init) := ggX7_init_X3_init
set_option maxRecDepth 20000 in
theorem ggX7_init_X1_init : GoodIn wsX7_init wsX1_init := goodIn_r _ [74, 75, 2, 3, 47, 76, 77, 78, 79, 128, 129, 130, 131] (by decide +kernel) (by decide +kernel)
set_option maxRecDepth 20000 in
theorem gX7_init_X1_init_n46 : GoodIn wsX7_init (wsX1_init) := ggX7_init_X1_init
set_option maxRecDepth 20000 in
theorem ggX7_init_X4_init : GoodIn wsX7_init wsX4_init := goodIn_r _ [81, 82, 2, 3, 60, 83, 84, 85, 62, 86, 47, 87, 88, 132, 133, 134, 135, 136] (by decide +kernel) (by decide +kernel)
set_option maxRecDepth 20000 in
theorem gX7_init_X4_init_n53 : GoodIn wsX7_init (wsX4_init) := ggX7_init_X4_init
theorem dX7_init_0 : decode cX7_init 0 = .ok (.aload_n 0, 1) := by decide +kernel
theorem dX7_init_1 : decode cX7_init 1 = .ok (.invokespecial 1, 3) := by decide +kernel
theorem dX7_init_4 : decode cX7_init 4 = .ok (.aload_n 0, 1) := by decide +kernel
theorem dX7_init_5 : decode cX7_init 5 = .ok (.new 7, 3) := by decide +kernel
theorem dX7_init_8 : decode cX7_init 8 = .ok (.dup, 1) := by decide +kernel
theorem dX7_init_9 : decode cX7_init 9 = .ok (.invokespecial 9, 3) := by decide +kernel
theorem dX7_init_12 : decode cX7_init 12 = .ok (.putfield 10, 3) := by decide +kernel
theorem dX7_init_15 : decode cX7_init 15 = .ok (.aload_n 0, 1) := by decide +kernel
theorem dX7_init_16 : decode cX7_init 16 = .ok (.new 16, 3) := by decide +kernel
theorem dX7_init_19 : decode cX7_init 19 = .ok (.dup, 1) := by decide +kernel
theorem dX7_init_20 : decode cX7_init 20 = .ok (.invokespecial 18, 3) := by decide +kernel
theorem dX7_init_23 : decode cX7_init 23 = .ok (.putfield 19, 3) := by decide +kernel
theorem dX7_init_26 : decode cX7_init 26 = .ok (.aload_n 0, 1) := by decide +kernel
theorem dX7_init_27 : decode cX7_init 27 = .ok (.new 23, 3) := by decide +kernel
theorem dX7_init_30 : decode cX7_init 30 = .ok (.dup, 1) := by decide +kernel
theorem dX7_init_31 : decode cX7_init 31 = .ok (.invokespecial 25, 3) := by decide +kernel
theorem dX7_init_34 : decode cX7_init 34 = .ok (.putfield 26, 3) := by decide +kernel
theorem dX7_init_37 : decode cX7_init 37 = .ok (.aload_n 0, 1) := by decide +kernel
theorem dX7_init_38 : decode cX7_init 38 = .ok (.new 30, 3) := by decide +kernel
theorem dX7_init_41 : decode cX7_init 41 = .ok (.dup, 1) := by decide +kernel
theorem dX7_init_42 : decode cX7_init 42 = .ok (.invokespecial 32, 3) := by decide +kernel
theorem dX7_init_45 : decode cX7_init 45 = .ok (.putfield 33, 3) := by decide +kernel
theorem dX7_init_48 : decode cX7_init 48 = .ok (.aload_n 0, 1) := by decide +kernel
theorem dX7_init_49 : decode cX7_init 49 = .ok (.new 37, 3) := by decide +kernel
theorem dX7_init_52 : decode cX7_init 52 = .ok (.dup, 1) := by decide +kernel
theorem dX7_init_53 : decode cX7_init 53 = .ok (.invokespecial 39, 3) := by decide +kernel
theorem dX7_init_56 : decode cX7_init 56 = .ok (.putfield 40, 3) := by decide +kernel
theorem dX7_init_59 : decode cX7_init 59 = .ok (.aload_n 0, 1) := by decide +kernel
theorem dX7_init_60 : decode cX7_init 60 = .ok (.new 44, 3) := by decide +kernel
theorem dX7_init_63 : decode cX7_init 63 = .ok (.dup, 1) := by decide +kernel
theorem dX7_init_64 : decode cX7_init 64 = .ok (.invokespecial 46, 3) := by decide +kernel
theorem dX7_init_67 : decode cX7_init 67 = .ok (.putfield 47, 3) := by decide +kernel
theorem dX7_init_70 : decode cX7_init 70 = .ok (.aload_n 0, 1) := by decide +kernel
theorem dX7_init_71 : decode cX7_init 71 = .ok (.new 51, 3) := by decide +kernel
theorem dX7_init_74 : decode cX7_init 74 = .ok (.dup, 1) := by decide +kernel
theorem dX7_init_75 : decode cX7_init 75 = .ok (.invokespecial 53, 3) := by decide +kernel
theorem dX7_init_78 : decode cX7_init 78 = .ok (.putfield 54, 3) := by decide +kernel
theorem dX7_init_81 : decode cX7_init 81 = .ok (.aload_n 0, 1) := by decide +kernel
theorem dX7_init_82 : decode cX7_init 82 = .ok (.iconst 0, 1) := by decide +kernel
theorem dX7_init_83 : decode cX7_init 83 = .ok (.putfield 58, 3) := by decide +kernel
theorem dX7_init_86 : decode cX7_init 86 = .ok (.aload_n 0, 1) := by decide +kernel
theorem dX7_init_87 : decode cX7_init 87 = .ok (.iconst (-1), 1) := by decide +kernel
theorem dX7_init_88 : decode cX7_init 88 = .ok (.putfield 62, 3) := by decide +kernel
theorem dX7_init_91 : decode cX7_init 91 = .ok (.return_, 1) := by decide +kernel
set_option maxRecDepth 20000 in
theorem ggX7_chief_X0_add : GoodIn wsX7_chief wsX0_add := goodIn_r _ [12, 13, 14, 15, 25, 26, 27, 28] (by decide +kernel) (by decide +kernel)
set_option maxRecDepth 20000 in
theorem gX7_chief_X0_add : GoodIn wsX7_chief (wsV RX7 81 RX0 yX0_add wsX0_add) := goodIn_app (goodIn_of _ (by decide +kernel)) ggX7_chief_X0_add
theorem dX7_chief_0 : decode cX7_chief 0 = .ok (.iload_n 1, 1) := by decide +kernel
theorem dX7_chief_1 : decode cX7_chief 1 = .ok (.ifCond .lt 9, 3) := by decide +kernel
theorem dX7_chief_4 : decode cX7_chief 4 = .ok (.iload_n 1, 1) := by decide +kernel
theorem dX7_chief_5 : decode cX7_chief 5 = .ok (.ldc 65, 2) := by decide +kernel
theorem dX7_chief_7 : decode cX7_chief 7 = .ok (.if_icmp .le 13, 3) := by decide +kernel
theorem dX7_chief_10 : decode cX7_chief 10 = .ok (.new 66, 3) := by decide +kernel
theorem dX7_chief_13 : decode cX7_chief 13 = .ok (.dup, 1) := by decide +kernel
theorem dX7_chief_14 : decode cX7_chief 14 = .ok (.ldc 68, 2) := by decide +kernel
theorem dX7_chief_16 : decode cX7_chief 16 = .ok (.invokespecial 70, 3) := by decide +kernel
theorem dX7_chief_19 : decode cX7_chief 19 = .ok (.athrow, 1) := by decide +kernel
theorem dX7_chief_20 : decode cX7_chief 20 = .ok (.aload_n 0, 1) := by decide +kernel
theorem dX7_chief_21 : decode cX7_chief 21 = .ok (.getfield 33, 3) := by decide +kernel
theorem dX7_chief_24 : decode cX7_chief 24 = .ok (.getfield 73, 3) := by decide +kernel
theorem dX7_chief_27 : decode cX7_chief 27 = .ok (.bipush 12, 2) := by decide +kernel
theorem dX7_chief_29 : decode cX7_chief 29 = .ok (.if_icmp .lt 13, 3) := by decide +kernel
theorem dX7_chief_32 : decode cX7_chief 32 = .ok (.new 76, 3) := by decide +kernel
theorem dX7_chief_35 : decode cX7_chief 35 = .ok (.dup, 1) := by decide +kernel
theorem dX7_chief_36 : decode cX7_chief 36 = .ok (.ldc 78, 2) := by decide +kernel
theorem dX7_chief_38 : decode cX7_chief 38 = .ok (.invokespecial 80, 3) := by decide +kernel
theorem dX7_chief_41 : decode cX7_chief 41 = .ok (.athrow, 1) := by decide +kernel
theorem dX7_chief_42 : decode cX7_chief 42 = .ok (.aload_n 0, 1) := by decide +kernel
theorem dX7_chief_43 : decode cX7_chief 43 = .ok (.getfield 33, 3) := by decide +kernel
theorem dX7_chief_46 : decode cX7_chief 46 = .ok (.iload_n 1, 1) := by decide +kernel
theorem dX7_chief_47 : decode cX7_chief 47 = .ok (.invokevirtual 81, 3) := by decide +kernel
theorem dX7_chief_50 : decode cX7_chief 50 = .ok (.ireturn, 1) := by decide +kernel
set_option maxRecDepth 20000 in
theorem ggX7_feed_X5_append : GoodIn wsX7_feed wsX5_append := goodIn_r _ [7, 8, 9, 19, 20] (by decide +kernel) (by decide +kernel)
set_option maxRecDepth 20000 in
theorem gX7_feed_X5_append : GoodIn wsX7_feed (wsV RX7 88 RX5 yX5_append wsX5_append) := goodIn_app (goodIn_of _ (by decide +kernel)) ggX7_feed_X5_append
theorem dX7_feed_0 : decode cX7_feed 0 = .ok (.aload_n 0, 1) := by decide +kernel
theorem dX7_feed_1 : decode cX7_feed 1 = .ok (.getfield 10, 3) := by decide +kernel
theorem dX7_feed_4 : decode cX7_feed 4 = .ok (.getfield 85, 3) := by decide +kernel
theorem dX7_feed_7 : decode cX7_feed 7 = .ok (.bipush 20, 2) := by decide +kernel
theorem dX7_feed_9 : decode cX7_feed 9 = .ok (.iadd, 1) := by decide +kernel
theorem dX7_feed_10 : decode cX7_feed 10 = .ok (.sipush 200, 3) := by decide +kernel
theorem dX7_feed_13 : decode cX7_feed 13 = .ok (.if_icmp .le 5, 3) := by decide +kernel
theorem dX7_feed_16 : decode cX7_feed 16 = .ok (.iconst (-1), 1) := by decide +kernel
theorem dX7_feed_17 : decode cX7_feed 17 = .ok (.ireturn, 1) := by decide +kernel
theorem dX7_feed_18 : decode cX7_feed 18 = .ok (.aload_n 0, 1) := by decide +kernel
theorem dX7_feed_19 : decode cX7_feed 19 = .ok (.getfield 10, 3) := by decide +kernel
theorem dX7_feed_22 : decode cX7_feed 22 = .ok (.iload_n 1, 1) := by decide +kernel
theorem dX7_feed_23 : decode cX7_feed 23 = .ok (.invokevirtual 88, 3) := by decide +kernel
theorem dX7_feed_26 : decode cX7_feed 26 = .ok (.aload_n 0, 1) := by decide +kernel
theorem dX7_feed_27 : decode cX7_feed 27 = .ok (.getfield 10, 3) := by decide +kernel
theorem dX7_feed_30 : decode cX7_feed 30 = .ok (.iload_n 2, 1) := by decide +kernel
theorem dX7_feed_31 : decode cX7_feed 31 = .ok (.invokevirtual 88, 3) := by decide +kernel
theorem dX7_feed_34 : decode cX7_feed 34 = .ok (.aload_n 0, 1) := by decide +kernel
theorem dX7_feed_35 : decode cX7_feed 35 = .ok (.getfield 10, 3) := by decide +kernel
theorem dX7_feed_38 : decode cX7_feed 38 = .ok (.iload_n 3, 1) := by decide +kernel
theorem dX7_feed_39 : decode cX7_feed 39 = .ok (.invokevirtual 88, 3) := by decide +kernel
theorem dX7_feed_42 : decode cX7_feed 42 = .ok (.aload_n 0, 1) := by decide +kernel
theorem dX7_feed_43 : decode cX7_feed 43 = .ok (.getfield 10, 3) := by decide +kernel
theorem dX7_feed_46 : decode cX7_feed 46 = .ok (.iload 4, 2) := by decide +kernel
theorem dX7_feed_48 : decode cX7_feed 48 = .ok (.invokevirtual 88, 3) := by decide +kernel
theorem dX7_feed_51 : decode cX7_feed 51 = .ok (.aload_n 0, 1) := by decide +kernel
theorem dX7_feed_52 : decode cX7_feed 52 = .ok (.getfield 10, 3) := by decide +kernel
theorem dX7_feed_55 : decode cX7_feed 55 = .ok (.iload 5, 2) := by decide +kernel
theorem dX7_feed_57 : decode cX7_feed 57 = .ok (.invokevirtual 88, 3) := by decide +kernel
theorem dX7_feed_60 : decode cX7_feed 60 = .ok (.aload_n 0, 1) := by decide +kernel
theorem dX7_feed_61 : decode cX7_feed 61 = .ok (.getfield 10, 3) := by decide +kernel
theorem dX7_feed_64 : decode cX7_feed 64 = .ok (.getfield 85, 3) := by decide +kernel
theorem dX7_feed_67 : decode cX7_feed 67 = .ok (.ireturn, 1) := by decide +kernel
set_option maxRecDepth 20000 in
theorem ggX7_custom_X6_read : GoodIn wsX7_custom wsX6_read := goodIn_r _ [18, 19, 20, 21, 22, 23, 24, 25, 26, 27, 28, 29, 30, 31, 32, 33, 17, 34, 35, 36, 37, 38, 39, 40, 41, 42, 43, 44, 45, 46, 47, 48, 49, 50, 51, 52, 53, 54, 55, 56, 57, 58, 59, 60, 61, 62, 63, 64, 65, 66, 67, 68, 69, 70, 71, 72, 73, 74, 75, 76, 77, 78, 79, 80, 81, 82, 83, 84, 85, 86, 87, 88, 89, 90, 91, 92, 93, 94, 95, 96, 97, 98, 99, 100, 101, 102, 103, 104, 105, 106, 107, 108, 109, 110, 111, 112, 113, 114, 115, 116, 117, 118, 119, 120, 121, 122, 123, 124, 125, 126, 165, 166, 167, 168, 169, 170, 171, 172, 173, 174, 175] (by decide +kernel) (by decide +kernel)
set_option maxRecDepth 20000 in
theorem gX7_custom_X6_read : GoodIn wsX7_custom (wsV RX7 101 RX6 yX6_read wsX6_read) := goodIn_app (goodIn_of _ (by decide +kernel)) ggX7_custom_X6_read
set_option maxRecDepth 20000 in
theorem ggX7_custom_X2_add : GoodIn wsX7_custom wsX2_add := goodIn_r _ [131, 132, 133, 134, 135, 136, 137, 138, 139, 140, 141, 142, 143, 144, 145, 157, 158, 159, 160, 161, 162, 163, 164, 165, 166, 167, 168, 169, 170, 171, 172, 173, 174, 175] (by decide +kernel) (by decide +kernel)
set_option maxRecDepth 20000 in
theorem gX7_custom_X2_add : GoodIn wsX7_custom (wsV RX7 109 RX2 yX2_add wsX2_add) := goodIn_app (goodIn_of _ (by decide +kernel)) ggX7_custom_X2_add
theorem dX7_custom_0 : decode cX7_custom 0 = .ok (.iload_n 1, 1) := by decide +kernel
theorem dX7_custom_1 : decode cX7_custom 1 = .ok (.ifCond .lt 25, 3) := by decide +kernel
theorem dX7_custom_4 : decode cX7_custom 4 = .ok (.iload_n 1, 1) := by decide +kernel
theorem dX7_custom_5 : decode cX7_custom 5 = .ok (.aload_n 0, 1) := by decide +kernel
theorem dX7_custom_6 : decode cX7_custom 6 = .ok (.getfield 10, 3) := by decide +kernel
theorem dX7_custom_9 : decode cX7_custom 9 = .ok (.getfield 85, 3) := by decide +kernel
theorem dX7_custom_12 : decode cX7_custom 12 = .ok (.if_icmp .gt 14, 3) := by decide +kernel
theorem dX7_custom_15 : decode cX7_custom 15 = .ok (.iload_n 2, 1) := by decide +kernel
theorem dX7_custom_16 : decode cX7_custom 16 = .ok (.ifCond .lt 10, 3) := by decide +kernel
theorem dX7_custom_19 : decode cX7_custom 19 = .ok (.iload_n 2, 1) := by decide +kernel
theorem dX7_custom_20 : decode cX7_custom 20 = .ok (.sipush 1000, 3) := by decide +kernel
theorem dX7_custom_23 : decode cX7_custom 23 = .ok (.if_icmp .le 13, 3) := by decide +kernel
theorem dX7_custom_26 : decode cX7_custom 26 = .ok (.new 66, 3) := by decide +kernel
theorem dX7_custom_29 : decode cX7_custom 29 = .ok (.dup, 1) := by decide +kernel
theorem dX7_custom_30 : decode cX7_custom 30 = .ok (.ldc 92, 2) := by decide +kernel
theorem dX7_custom_32 : decode cX7_custom 32 = .ok (.invokespecial 70, 3) := by decide +kernel
theorem dX7_custom_35 : decode cX7_custom 35 = .ok (.athrow, 1) := by decide +kernel
theorem dX7_custom_36 : decode cX7_custom 36 = .ok (.aload_n 0, 1) := by decide +kernel
theorem dX7_custom_37 : decode cX7_custom 37 = .ok (.getfield 26, 3) := by decide +kernel
theorem dX7_custom_40 : decode cX7_custom 40 = .ok (.getfield 94, 3) := by decide +kernel
theorem dX7_custom_43 : decode cX7_custom 43 = .ok (.bipush 20, 2) := by decide +kernel
theorem dX7_custom_45 : decode cX7_custom 45 = .ok (.if_icmp .lt 13, 3) := by decide +kernel
theorem dX7_custom_48 : decode cX7_custom 48 = .ok (.new 76, 3) := by decide +kernel
theorem dX7_custom_51 : decode cX7_custom 51 = .ok (.dup, 1) := by decide +kernel
theorem dX7_custom_52 : decode cX7_custom 52 = .ok (.ldc 95, 2) := by decide +kernel
theorem dX7_custom_54 : decode cX7_custom 54 = .ok (.invokespecial 80, 3) := by decide +kernel
theorem dX7_custom_57 : decode cX7_custom 57 = .ok (.athrow, 1) := by decide +kernel
theorem dX7_custom_58 : decode cX7_custom 58 = .ok (.aload_n 0, 1) := by decide +kernel
theorem dX7_custom_59 : decode cX7_custom 59 = .ok (.getfield 19, 3) := by decide +kernel
theorem dX7_custom_62 : decode cX7_custom 62 = .ok (.aload_n 0, 1) := by decide +kernel
theorem dX7_custom_63 : decode cX7_custom 63 = .ok (.getfield 10, 3) := by decide +kernel
theorem dX7_custom_66 : decode cX7_custom 66 = .ok (.getfield 97, 3) := by decide +kernel
theorem dX7_custom_69 : decode cX7_custom 69 = .ok (.iload_n 1, 1) := by decide +kernel
theorem dX7_custom_70 : decode cX7_custom 70 = .ok (.invokevirtual 101, 3) := by decide +kernel
theorem dX7_custom_73 : decode cX7_custom 73 = .ok (.aload_n 0, 1) := by decide +kernel
theorem dX7_custom_74 : decode cX7_custom 74 = .ok (.getfield 10, 3) := by decide +kernel
theorem dX7_custom_77 : decode cX7_custom 77 = .ok (.iconst 0, 1) := by decide +kernel
theorem dX7_custom_78 : decode cX7_custom 78 = .ok (.putfield 85, 3) := by decide +kernel
theorem dX7_custom_81 : decode cX7_custom 81 = .ok (.aload_n 0, 1) := by decide +kernel
theorem dX7_custom_82 : decode cX7_custom 82 = .ok (.aload_n 0, 1) := by decide +kernel
theorem dX7_custom_83 : decode cX7_custom 83 = .ok (.getfield 19, 3) := by decide +kernel
theorem dX7_custom_86 : decode cX7_custom 86 = .ok (.getfield 105, 3) := by decide +kernel
theorem dX7_custom_89 : decode cX7_custom 89 = .ok (.putfield 62, 3) := by decide +kernel
theorem dX7_custom_92 : decode cX7_custom 92 = .ok (.aload_n 0, 1) := by decide +kernel
theorem dX7_custom_93 : decode cX7_custom 93 = .ok (.getfield 19, 3) := by decide +kernel
theorem dX7_custom_96 : decode cX7_custom 96 = .ok (.getfield 106, 3) := by decide +kernel
theorem dX7_custom_99 : decode cX7_custom 99 = .ok (.ifCond .eq 14, 3) := by decide +kernel
theorem dX7_custom_102 : decode cX7_custom 102 = .ok (.aload_n 0, 1) := by decide +kernel
theorem dX7_custom_103 : decode cX7_custom 103 = .ok (.getfield 19, 3) := by decide +kernel
theorem dX7_custom_106 : decode cX7_custom 106 = .ok (.getfield 106, 3) := by decide +kernel
theorem dX7_custom_109 : decode cX7_custom 109 = .ok (.bipush 10, 2) := by decide +kernel
theorem dX7_custom_111 : decode cX7_custom 111 = .ok (.isub, 1) := by decide +kernel
theorem dX7_custom_112 : decode cX7_custom 112 = .ok (.ireturn, 1) := by decide +kernel
theorem dX7_custom_113 : decode cX7_custom 113 = .ok (.aload_n 0, 1) := by decide +kernel
theorem dX7_custom_114 : decode cX7_custom 114 = .ok (.getfield 26, 3) := by decide +kernel
theorem dX7_custom_117 : decode cX7_custom 117 = .ok (.aload_n 0, 1) := by decide +kernel
theorem dX7_custom_118 : decode cX7_custom 118 = .ok (.getfield 19, 3) := by decide +kernel
theorem dX7_custom_121 : decode cX7_custom 121 = .ok (.iload_n 2, 1) := by decide +kernel
theorem dX7_custom_122 : decode cX7_custom 122 = .ok (.invokevirtual 109, 3) := by decide +kernel
theorem dX7_custom_125 : decode cX7_custom 125 = .ok (.ireturn, 1) := by decide +kernel
theorem dX7_fault_0 : decode cX7_fault 0 = .ok (.aload_n 0, 1) := by decide +kernel
theorem dX7_fault_1 : decode cX7_fault 1 = .ok (.getfield 62, 3) := by decide +kernel
theorem dX7_fault_4 : decode cX7_fault 4 = .ok (.ireturn, 1) := by decide +kernel
set_option maxRecDepth 20000 in
theorem ggX7_force_X2_inForce : GoodIn wsX7_force wsX2_inForce := goodIn_r _ [6, 7, 8, 18, 19, 20, 21, 22, 23, 24, 25] (by decide +kernel) (by decide +kernel)
set_option maxRecDepth 20000 in
theorem gX7_force_X2_inForce : GoodIn wsX7_force (wsV RX7 112 RX2 yX2_inForce wsX2_inForce) := goodIn_app (goodIn_of _ (by decide +kernel)) ggX7_force_X2_inForce
theorem dX7_force_0 : decode cX7_force 0 = .ok (.aload_n 0, 1) := by decide +kernel
theorem dX7_force_1 : decode cX7_force 1 = .ok (.getfield 26, 3) := by decide +kernel
theorem dX7_force_4 : decode cX7_force 4 = .ok (.iload_n 1, 1) := by decide +kernel
theorem dX7_force_5 : decode cX7_force 5 = .ok (.invokevirtual 112, 3) := by decide +kernel
theorem dX7_force_8 : decode cX7_force 8 = .ok (.ireturn, 1) := by decide +kernel
set_option maxRecDepth 20000 in
theorem ggX7_give_X7_checkHandingOver : GoodIn wsX7_give wsX7_checkHandingOver := goodIn_ca (goodIn_ca (goodIn_ca (goodIn_r _ [8, 9, 10, 11, 12, 13, 7, 14, 15, 16, 1, 17, 18, 19, 20, 21, 22, 23, 24, 108, 109, 110, 111, 112, 113, 114, 115, 116, 117, 118, 119, 120] (by decide +kernel) (by decide +kernel)) (goodIn_sub (fun _ h => List.mem_cons_of_mem _ (List.mem_append_left _ (List.mem_append_left _ (List.mem_append_right _ h)))) (by decide +kernel))) (goodIn_sub (fun _ h => List.mem_cons_of_mem _ (List.mem_append_left _ (List.mem_append_right _ h))) (by decide +kernel))) (goodIn_sub (fun _ h => List.mem_cons_of_mem _ (List.mem_append_right _ h)) (by decide +kernel))
set_option maxRecDepth 20000 in
theorem gX7_give_X7_checkHandingOver : GoodIn wsX7_give (wsV RX7 115 RX7 yX7_checkHandingOver wsX7_checkHandingOver) := goodIn_app (goodIn_of _ (by decide +kernel)) ggX7_give_X7_checkHandingOver
set_option maxRecDepth 20000 in
theorem ggX7_give_X7_debtsMadeBy : GoodIn wsX7_give wsX7_debtsMadeBy := goodIn_r _ [28, 3, 29, 30, 31, 32, 33, 34, 35, 36, 37, 38, 39, 40, 41, 42, 43, 44, 45, 46, 47, 48, 49, 50, 51, 52, 53, 54, 55, 56, 57, 58, 59, 60, 61, 62, 108, 109, 110, 111, 112, 113, 114, 115, 116, 121, 122, 123, 124, 125, 126, 127, 128, 129, 130, 131, 132, 133] (by decide +kernel) (by decide +kernel)
set_option maxRecDepth 20000 in
theorem gX7_give_X7_debtsMadeBy : GoodIn wsX7_give (wsV RX7 123 RX7 yX7_debtsMadeBy wsX7_debtsMadeBy) := goodIn_app (goodIn_of _ (by decide +kernel)) ggX7_give_X7_debtsMadeBy
set_option maxRecDepth 20000 in
theorem ggX7_give_X3_room : GoodIn wsX7_give wsX3_room := goodIn_r _ [66, 40, 121, 122, 123, 124, 125] (by decide +kernel) (by decide +kernel)
set_option maxRecDepth 20000 in
theorem gX7_give_X3_room : GoodIn wsX7_give (wsV RX7 127 RX3 yX3_room wsX3_room) := goodIn_app (goodIn_of _ (by decide +kernel)) ggX7_give_X3_room
set_option maxRecDepth 20000 in
theorem ggX7_give_X0_moveBlankets : GoodIn wsX7_give wsX0_moveBlankets := goodIn_r _ [71, 72, 117, 118, 119, 120] (by decide +kernel) (by decide +kernel)
set_option maxRecDepth 20000 in
theorem gX7_give_X0_moveBlankets : GoodIn wsX7_give (wsV RX7 131 RX0 yX0_moveBlankets wsX0_moveBlankets) := goodIn_app (goodIn_of _ (by decide +kernel)) ggX7_give_X0_moveBlankets
set_option maxRecDepth 20000 in
theorem ggX7_give_X7_recordGiven : GoodIn wsX7_give wsX7_recordGiven := goodIn_r _ [76, 3, 1, 77, 33, 34, 78, 79, 80, 38, 81, 40, 41, 82, 83, 31, 84, 85, 86, 87, 88, 42, 43, 44, 45, 46, 47, 89, 90, 91, 92, 93, 94, 95, 96, 97, 98, 48, 49, 50, 51, 52, 53, 54, 55, 56, 57, 58, 59, 60, 61, 62, 30, 32, 99, 100, 101, 102, 103, 104, 105, 106, 107, 108, 109, 110, 111, 112, 113, 114, 115, 116, 117, 118, 119, 120, 121, 122, 123, 124, 125, 126, 127, 128, 129, 130, 131, 132, 133] (by decide +kernel) (by decide +kernel)
set_option maxRecDepth 20000 in
theorem gX7_give_X7_recordGiven : GoodIn wsX7_give (wsV RX7 134 RX7 yX7_recordGiven wsX7_recordGiven) := goodIn_app (goodIn_of _ (by decide +kernel)) ggX7_give_X7_recordGiven
theorem dX7_give_0 : decode cX7_give 0 = .ok (.aload_n 0, 1) := by decide +kernel
theorem dX7_give_1 : decode cX7_give 1 = .ok (.iload_n 1, 1) := by decide +kernel
theorem dX7_give_2 : decode cX7_give 2 = .ok (.iload_n 2, 1) := by decide +kernel
theorem dX7_give_3 : decode cX7_give 3 = .ok (.iload_n 3, 1) := by decide +kernel
theorem dX7_give_4 : decode cX7_give 4 = .ok (.invokevirtual 115, 3) := by decide +kernel
theorem dX7_give_7 : decode cX7_give 7 = .ok (.aload_n 0, 1) := by decide +kernel
theorem dX7_give_8 : decode cX7_give 8 = .ok (.getfield 33, 3) := by decide +kernel
theorem dX7_give_11 : decode cX7_give 11 = .ok (.getfield 119, 3) := by decide +kernel
theorem dX7_give_14 : decode cX7_give 14 = .ok (.iload_n 1, 1) := by decide +kernel
theorem dX7_give_15 : decode cX7_give 15 = .ok (.iaload, 1) := by decide +kernel
theorem dX7_give_16 : decode cX7_give 16 = .ok (.iload_n 3, 1) := by decide +kernel
theorem dX7_give_17 : decode cX7_give 17 = .ok (.if_icmp .ge 5, 3) := by decide +kernel
theorem dX7_give_20 : decode cX7_give 20 = .ok (.iconst (-1), 1) := by decide +kernel
theorem dX7_give_21 : decode cX7_give 21 = .ok (.ireturn, 1) := by decide +kernel
theorem dX7_give_22 : decode cX7_give 22 = .ok (.aload_n 0, 1) := by decide +kernel
theorem dX7_give_23 : decode cX7_give 23 = .ok (.iload_n 1, 1) := by decide +kernel
theorem dX7_give_24 : decode cX7_give 24 = .ok (.iload_n 2, 1) := by decide +kernel
theorem dX7_give_25 : decode cX7_give 25 = .ok (.iload_n 3, 1) := by decide +kernel
theorem dX7_give_26 : decode cX7_give 26 = .ok (.invokevirtual 123, 3) := by decide +kernel
theorem dX7_give_29 : decode cX7_give 29 = .ok (.aload_n 0, 1) := by decide +kernel
theorem dX7_give_30 : decode cX7_give 30 = .ok (.getfield 40, 3) := by decide +kernel
theorem dX7_give_33 : decode cX7_give 33 = .ok (.invokevirtual 127, 3) := by decide +kernel
theorem dX7_give_36 : decode cX7_give 36 = .ok (.if_icmp .le 6, 3) := by decide +kernel
theorem dX7_give_39 : decode cX7_give 39 = .ok (.bipush (-2), 2) := by decide +kernel
theorem dX7_give_41 : decode cX7_give 41 = .ok (.ireturn, 1) := by decide +kernel
theorem dX7_give_42 : decode cX7_give 42 = .ok (.aload_n 0, 1) := by decide +kernel
theorem dX7_give_43 : decode cX7_give 43 = .ok (.getfield 33, 3) := by decide +kernel
theorem dX7_give_46 : decode cX7_give 46 = .ok (.iload_n 1, 1) := by decide +kernel
theorem dX7_give_47 : decode cX7_give 47 = .ok (.iload_n 2, 1) := by decide +kernel
theorem dX7_give_48 : decode cX7_give 48 = .ok (.iload_n 3, 1) := by decide +kernel
theorem dX7_give_49 : decode cX7_give 49 = .ok (.invokevirtual 131, 3) := by decide +kernel
theorem dX7_give_52 : decode cX7_give 52 = .ok (.aload_n 0, 1) := by decide +kernel
theorem dX7_give_53 : decode cX7_give 53 = .ok (.iload_n 1, 1) := by decide +kernel
theorem dX7_give_54 : decode cX7_give 54 = .ok (.iload_n 2, 1) := by decide +kernel
theorem dX7_give_55 : decode cX7_give 55 = .ok (.iload_n 3, 1) := by decide +kernel
theorem dX7_give_56 : decode cX7_give 56 = .ok (.invokevirtual 134, 3) := by decide +kernel
theorem dX7_give_59 : decode cX7_give 59 = .ok (.ireturn, 1) := by decide +kernel
set_option maxRecDepth 20000 in
theorem ggX7_lend_X7_checkHandingOver : GoodIn wsX7_lend wsX7_checkHandingOver := goodIn_ca (goodIn_ca (goodIn_ca (goodIn_r _ [8, 9, 10, 11, 12, 13, 7, 14, 15, 16, 1, 17, 18, 19, 20, 21, 22, 23, 24, 45, 46, 47, 48, 49, 50, 51, 52, 53, 54, 55, 56, 57] (by decide +kernel) (by decide +kernel)) (goodIn_sub (fun _ h => List.mem_cons_of_mem _ (List.mem_append_left _ (List.mem_append_left _ (List.mem_append_right _ h)))) (by decide +kernel))) (goodIn_sub (fun _ h => List.mem_cons_of_mem _ (List.mem_append_left _ (List.mem_append_right _ h))) (by decide +kernel))) (goodIn_sub (fun _ h => List.mem_cons_of_mem _ (List.mem_append_right _ h)) (by decide +kernel))
set_option maxRecDepth 20000 in
theorem gX7_lend_X7_checkHandingOver : GoodIn wsX7_lend (wsV RX7 115 RX7 yX7_checkHandingOver wsX7_checkHandingOver) := goodIn_app (goodIn_of _ (by decide +kernel)) ggX7_lend_X7_checkHandingOver
set_option maxRecDepth 20000 in
theorem ggX7_lend_X3_room : GoodIn wsX7_lend wsX3_room := goodIn_r _ [29, 30, 58, 59, 60, 61, 62] (by decide +kernel) (by decide +kernel)
set_option maxRecDepth 20000 in
theorem gX7_lend_X3_room : GoodIn wsX7_lend (wsV RX7 127 RX3 yX3_room wsX3_room) := goodIn_app (goodIn_of _ (by decide +kernel)) ggX7_lend_X3_room
set_option maxRecDepth 20000 in
theorem ggX7_lend_X0_moveBlankets : GoodIn wsX7_lend wsX0_moveBlankets := goodIn_r _ [35, 36, 54, 55, 56, 57] (by decide +kernel) (by decide +kernel)
set_option maxRecDepth 20000 in
theorem gX7_lend_X0_moveBlankets : GoodIn wsX7_lend (wsV RX7 131 RX0 yX0_moveBlankets wsX0_moveBlankets) := goodIn_app (goodIn_of _ (by decide +kernel)) ggX7_lend_X0_moveBlankets
set_option maxRecDepth 20000 in
theorem ggX7_lend_X3_add : GoodIn wsX7_lend wsX3_add := goodIn_r _ [40, 41, 30, 42, 43, 44, 58, 59, 60, 61, 62] (by decide +kernel) (by decide +kernel)
set_option maxRecDepth 20000 in
theorem gX7_lend_X3_add : GoodIn wsX7_lend (wsV RX7 137 RX3 yX3_add wsX3_add) := goodIn_app (goodIn_of _ (by decide +kernel)) ggX7_lend_X3_add
theorem dX7_lend_0 : decode cX7_lend 0 = .ok (.aload_n 0, 1) := by decide +kernel
theorem dX7_lend_1 : decode cX7_lend 1 = .ok (.iload_n 1, 1) := by decide +kernel
theorem dX7_lend_2 : decode cX7_lend 2 = .ok (.iload_n 2, 1) := by decide +kernel
theorem dX7_lend_3 : decode cX7_lend 3 = .ok (.iload_n 3, 1) := by decide +kernel
theorem dX7_lend_4 : decode cX7_lend 4 = .ok (.invokevirtual 115, 3) := by decide +kernel
theorem dX7_lend_7 : decode cX7_lend 7 = .ok (.aload_n 0, 1) := by decide +kernel
theorem dX7_lend_8 : decode cX7_lend 8 = .ok (.getfield 33, 3) := by decide +kernel
theorem dX7_lend_11 : decode cX7_lend 11 = .ok (.getfield 119, 3) := by decide +kernel
theorem dX7_lend_14 : decode cX7_lend 14 = .ok (.iload_n 1, 1) := by decide +kernel
theorem dX7_lend_15 : decode cX7_lend 15 = .ok (.iaload, 1) := by decide +kernel
theorem dX7_lend_16 : decode cX7_lend 16 = .ok (.iload_n 3, 1) := by decide +kernel
theorem dX7_lend_17 : decode cX7_lend 17 = .ok (.if_icmp .ge 5, 3) := by decide +kernel
theorem dX7_lend_20 : decode cX7_lend 20 = .ok (.iconst (-1), 1) := by decide +kernel
theorem dX7_lend_21 : decode cX7_lend 21 = .ok (.ireturn, 1) := by decide +kernel
theorem dX7_lend_22 : decode cX7_lend 22 = .ok (.aload_n 0, 1) := by decide +kernel
theorem dX7_lend_23 : decode cX7_lend 23 = .ok (.getfield 40, 3) := by decide +kernel
theorem dX7_lend_26 : decode cX7_lend 26 = .ok (.invokevirtual 127, 3) := by decide +kernel
theorem dX7_lend_29 : decode cX7_lend 29 = .ok (.iconst 1, 1) := by decide +kernel
theorem dX7_lend_30 : decode cX7_lend 30 = .ok (.if_icmp .ge 6, 3) := by decide +kernel
theorem dX7_lend_33 : decode cX7_lend 33 = .ok (.bipush (-2), 2) := by decide +kernel
theorem dX7_lend_35 : decode cX7_lend 35 = .ok (.ireturn, 1) := by decide +kernel
theorem dX7_lend_36 : decode cX7_lend 36 = .ok (.aload_n 0, 1) := by decide +kernel
theorem dX7_lend_37 : decode cX7_lend 37 = .ok (.getfield 33, 3) := by decide +kernel
theorem dX7_lend_40 : decode cX7_lend 40 = .ok (.iload_n 1, 1) := by decide +kernel
theorem dX7_lend_41 : decode cX7_lend 41 = .ok (.iload_n 2, 1) := by decide +kernel
theorem dX7_lend_42 : decode cX7_lend 42 = .ok (.iload_n 3, 1) := by decide +kernel
theorem dX7_lend_43 : decode cX7_lend 43 = .ok (.invokevirtual 131, 3) := by decide +kernel
theorem dX7_lend_46 : decode cX7_lend 46 = .ok (.aload_n 0, 1) := by decide +kernel
theorem dX7_lend_47 : decode cX7_lend 47 = .ok (.getfield 40, 3) := by decide +kernel
theorem dX7_lend_50 : decode cX7_lend 50 = .ok (.iload_n 2, 1) := by decide +kernel
theorem dX7_lend_51 : decode cX7_lend 51 = .ok (.iload_n 1, 1) := by decide +kernel
theorem dX7_lend_52 : decode cX7_lend 52 = .ok (.iload_n 3, 1) := by decide +kernel
theorem dX7_lend_53 : decode cX7_lend 53 = .ok (.iconst (-1), 1) := by decide +kernel
theorem dX7_lend_54 : decode cX7_lend 54 = .ok (.invokevirtual 137, 3) := by decide +kernel
theorem dX7_lend_57 : decode cX7_lend 57 = .ok (.ireturn, 1) := by decide +kernel
set_option maxRecDepth 20000 in
theorem ggX7_copper_X7_checkChief : GoodIn wsX7_copper wsX7_checkChief := goodIn_ca (goodIn_r _ [12, 13, 14, 15, 16, 31, 32, 33, 34, 35, 36, 37, 38, 39, 44, 45, 46, 47] (by decide +kernel) (by decide +kernel)) (goodIn_sub (fun _ h => List.mem_cons_of_mem _ (List.mem_append_right _ h)) (by decide +kernel))
set_option maxRecDepth 20000 in
theorem gX7_copper_X7_checkChief : GoodIn wsX7_copper (wsV RX7 140 RX7 yX7_checkChief wsX7_checkChief) := goodIn_app (goodIn_of _ (by decide +kernel)) ggX7_copper_X7_checkChief
set_option maxRecDepth 20000 in
theorem ggX7_copper_X7_checkLives : GoodIn wsX7_copper wsX7_checkLives := goodIn_ca (goodIn_r _ [20, 3, 4, 15, 21, 31, 32, 33, 34, 35, 36, 37, 38, 39, 44, 45, 46, 47] (by decide +kernel) (by decide +kernel)) (goodIn_sub (fun _ h => List.mem_cons_of_mem _ (List.mem_append_left _ (List.mem_append_right _ h))) (by decide +kernel))
end
section
set_option maxRecDepth 20000 in
theorem gX7_copper_X7_checkLives : GoodIn wsX7_copper (wsV RX7 145 RX7 yX7_checkLives wsX7_checkLives) := goodIn_app (goodIn_of _ (by decide +kernel)) ggX7_copper_X7_checkLives
set_option maxRecDepth 20000 in
theorem ggX7_copper_X1_add : GoodIn wsX7_copper wsX1_add := goodIn_r _ [26, 27, 28, 29, 30, 40, 41, 42, 43] (by decide +kernel) (by decide +kernel)
set_option maxRecDepth 20000 in
theorem gX7_copper_X1_add : GoodIn wsX7_copper (wsV RX7 151 RX1 yX1_add wsX1_add) := goodIn_app (goodIn_of _ (by decide +kernel)) ggX7_copper_X1_add
theorem dX7_copper_0 : decode cX7_copper 0 = .ok (.aload_n 0, 1) := by decide +kernel
theorem dX7_copper_1 : decode cX7_copper 1 = .ok (.iload_n 1, 1) := by decide +kernel
theorem dX7_copper_2 : decode cX7_copper 2 = .ok (.invokevirtual 140, 3) := by decide +kernel
theorem dX7_copper_5 : decode cX7_copper 5 = .ok (.iload_n 2, 1) := by decide +kernel
theorem dX7_copper_6 : decode cX7_copper 6 = .ok (.iconst 1, 1) := by decide +kernel
theorem dX7_copper_7 : decode cX7_copper 7 = .ok (.if_icmp .lt 9, 3) := by decide +kernel
theorem dX7_copper_10 : decode cX7_copper 10 = .ok (.iload_n 2, 1) := by decide +kernel
theorem dX7_copper_11 : decode cX7_copper 11 = .ok (.ldc 65, 2) := by decide +kernel
theorem dX7_copper_13 : decode cX7_copper 13 = .ok (.if_icmp .le 13, 3) := by decide +kernel
theorem dX7_copper_16 : decode cX7_copper 16 = .ok (.new 66, 3) := by decide +kernel
theorem dX7_copper_19 : decode cX7_copper 19 = .ok (.dup, 1) := by decide +kernel
theorem dX7_copper_20 : decode cX7_copper 20 = .ok (.ldc 143, 2) := by decide +kernel
theorem dX7_copper_22 : decode cX7_copper 22 = .ok (.invokespecial 70, 3) := by decide +kernel
theorem dX7_copper_25 : decode cX7_copper 25 = .ok (.athrow, 1) := by decide +kernel
theorem dX7_copper_26 : decode cX7_copper 26 = .ok (.aload_n 0, 1) := by decide +kernel
theorem dX7_copper_27 : decode cX7_copper 27 = .ok (.iload_n 1, 1) := by decide +kernel
theorem dX7_copper_28 : decode cX7_copper 28 = .ok (.invokevirtual 145, 3) := by decide +kernel
theorem dX7_copper_31 : decode cX7_copper 31 = .ok (.aload_n 0, 1) := by decide +kernel
theorem dX7_copper_32 : decode cX7_copper 32 = .ok (.getfield 47, 3) := by decide +kernel
theorem dX7_copper_35 : decode cX7_copper 35 = .ok (.getfield 148, 3) := by decide +kernel
theorem dX7_copper_38 : decode cX7_copper 38 = .ok (.bipush 30, 2) := by decide +kernel
theorem dX7_copper_40 : decode cX7_copper 40 = .ok (.if_icmp .lt 13, 3) := by decide +kernel
theorem dX7_copper_43 : decode cX7_copper 43 = .ok (.new 76, 3) := by decide +kernel
theorem dX7_copper_46 : decode cX7_copper 46 = .ok (.dup, 1) := by decide +kernel
theorem dX7_copper_47 : decode cX7_copper 47 = .ok (.ldc 149, 2) := by decide +kernel
theorem dX7_copper_49 : decode cX7_copper 49 = .ok (.invokespecial 80, 3) := by decide +kernel
theorem dX7_copper_52 : decode cX7_copper 52 = .ok (.athrow, 1) := by decide +kernel
theorem dX7_copper_53 : decode cX7_copper 53 = .ok (.aload_n 0, 1) := by decide +kernel
theorem dX7_copper_54 : decode cX7_copper 54 = .ok (.getfield 47, 3) := by decide +kernel
theorem dX7_copper_57 : decode cX7_copper 57 = .ok (.iload_n 1, 1) := by decide +kernel
theorem dX7_copper_58 : decode cX7_copper 58 = .ok (.iload_n 2, 1) := by decide +kernel
theorem dX7_copper_59 : decode cX7_copper 59 = .ok (.invokevirtual 151, 3) := by decide +kernel
theorem dX7_copper_62 : decode cX7_copper 62 = .ok (.ireturn, 1) := by decide +kernel
set_option maxRecDepth 20000 in
theorem ggX7_pass_X7_checkCopper : GoodIn wsX7_pass wsX7_checkCopper := goodIn_ca (goodIn_r _ [11, 12, 13, 3, 14, 105, 106, 107, 108, 109, 110, 111, 112, 113, 114, 115, 116, 117] (by decide +kernel) (by decide +kernel)) (goodIn_sub (fun _ h => List.mem_cons_of_mem _ (List.mem_append_left _ (List.mem_append_right _ h))) (by decide +kernel))
set_option maxRecDepth 20000 in
theorem gX7_pass_X7_checkCopper : GoodIn wsX7_pass (wsV RX7 154 RX7 yX7_checkCopper wsX7_checkCopper) := goodIn_app (goodIn_of _ (by decide +kernel)) ggX7_pass_X7_checkCopper
set_option maxRecDepth 20000 in
theorem ggX7_pass_X7_checkChief : GoodIn wsX7_pass wsX7_checkChief := goodIn_ca (goodIn_r _ [18, 12, 13, 19, 20, 105, 106, 107, 108, 109, 110, 111, 112, 113, 118, 119, 120, 121] (by decide +kernel) (by decide +kernel)) (goodIn_sub (fun _ h => List.mem_cons_of_mem _ (List.mem_append_left _ (List.mem_append_right _ h))) (by decide +kernel))
set_option maxRecDepth 20000 in
theorem gX7_pass_X7_checkChief : GoodIn wsX7_pass (wsV RX7 140 RX7 yX7_checkChief wsX7_checkChief) := goodIn_app (goodIn_of _ (by decide +kernel)) ggX7_pass_X7_checkChief
set_option maxRecDepth 20000 in
theorem ggX7_pass_X7_checkLives : GoodIn wsX7_pass wsX7_checkLives := goodIn_ca (goodIn_r _ [24, 25, 26, 19, 27, 105, 106, 107, 108, 109, 110, 111, 112, 113, 118, 119, 120, 121] (by decide +kernel) (by decide +kernel)) (goodIn_sub (fun _ h => List.mem_cons_of_mem _ (List.mem_append_right _ h)) (by decide +kernel))
set_option maxRecDepth 20000 in
theorem gX7_pass_X7_checkLives : GoodIn wsX7_pass (wsV RX7 145 RX7 yX7_checkLives wsX7_checkLives) := goodIn_app (goodIn_of _ (by decide +kernel)) ggX7_pass_X7_checkLives
set_option maxRecDepth 20000 in
theorem ggX7_pass_X7_debtsMadeBy : GoodIn wsX7_pass wsX7_debtsMadeBy := goodIn_r _ [31, 6, 32, 33, 34, 35, 36, 37, 38, 39, 40, 41, 42, 43, 44, 45, 46, 47, 48, 49, 50, 51, 52, 53, 54, 55, 56, 57, 58, 59, 60, 61, 62, 63, 64, 65, 105, 106, 107, 108, 109, 110, 111, 112, 113, 122, 123, 124, 125, 126, 127, 128, 129, 130, 131, 132, 133, 134] (by decide +kernel) (by decide +kernel)
set_option maxRecDepth 20000 in
theorem gX7_pass_X7_debtsMadeBy : GoodIn wsX7_pass (wsV RX7 123 RX7 yX7_debtsMadeBy wsX7_debtsMadeBy) := goodIn_app (goodIn_of _ (by decide +kernel)) ggX7_pass_X7_debtsMadeBy
set_option maxRecDepth 20000 in
theorem ggX7_pass_X3_room : GoodIn wsX7_pass wsX3_room := goodIn_r _ [69, 43, 122, 123, 124, 125, 126] (by decide +kernel) (by decide +kernel)
set_option maxRecDepth 20000 in
theorem gX7_pass_X3_room : GoodIn wsX7_pass (wsV RX7 127 RX3 yX3_room wsX3_room) := goodIn_app (goodIn_of _ (by decide +kernel)) ggX7_pass_X3_room
set_option maxRecDepth 20000 in
theorem ggX7_pass_X7_recordGiven : GoodIn wsX7_pass wsX7_recordGiven := goodIn_r _ [73, 6, 19, 74, 36, 37, 75, 76, 77, 41, 78, 43, 44, 79, 80, 34, 81, 82, 83, 84, 85, 45, 46, 47, 48, 49, 50, 86, 87, 88, 89, 90, 91, 92, 93, 94, 95, 51, 52, 53, 54, 55, 56, 57, 58, 59, 60, 61, 62, 63, 64, 65, 33, 35, 96, 97, 98, 99, 100, 101, 102, 103, 104, 105, 106, 107, 108, 109, 110, 111, 112, 113, 118, 119, 120, 121, 122, 123, 124, 125, 126, 127, 128, 129, 130, 131, 132, 133, 134] (by decide +kernel) (by decide +kernel)
set_option maxRecDepth 20000 in
theorem gX7_pass_X7_recordGiven : GoodIn wsX7_pass (wsV RX7 134 RX7 yX7_recordGiven wsX7_recordGiven) := goodIn_app (goodIn_of _ (by decide +kernel)) ggX7_pass_X7_recordGiven
theorem dX7_pass_0 : decode cX7_pass 0 = .ok (.aload_n 0, 1) := by decide +kernel
theorem dX7_pass_1 : decode cX7_pass 1 = .ok (.iload_n 1, 1) := by decide +kernel
theorem dX7_pass_2 : decode cX7_pass 2 = .ok (.invokevirtual 154, 3) := by decide +kernel
theorem dX7_pass_5 : decode cX7_pass 5 = .ok (.aload_n 0, 1) := by decide +kernel
theorem dX7_pass_6 : decode cX7_pass 6 = .ok (.iload_n 2, 1) := by decide +kernel
theorem dX7_pass_7 : decode cX7_pass 7 = .ok (.invokevirtual 140, 3) := by decide +kernel
theorem dX7_pass_10 : decode cX7_pass 10 = .ok (.aload_n 0, 1) := by decide +kernel
theorem dX7_pass_11 : decode cX7_pass 11 = .ok (.getfield 47, 3) := by decide +kernel
theorem dX7_pass_14 : decode cX7_pass 14 = .ok (.getfield 157, 3) := by decide +kernel
theorem dX7_pass_17 : decode cX7_pass 17 = .ok (.iload_n 1, 1) := by decide +kernel
theorem dX7_pass_18 : decode cX7_pass 18 = .ok (.iaload, 1) := by decide +kernel
theorem dX7_pass_19 : decode cX7_pass 19 = .ok (.istore_n 3, 1) := by decide +kernel
theorem dX7_pass_20 : decode cX7_pass 20 = .ok (.iload_n 3, 1) := by decide +kernel
theorem dX7_pass_21 : decode cX7_pass 21 = .ok (.iload_n 2, 1) := by decide +kernel
theorem dX7_pass_22 : decode cX7_pass 22 = .ok (.if_icmp .ne 13, 3) := by decide +kernel
theorem dX7_pass_25 : decode cX7_pass 25 = .ok (.new 66, 3) := by decide +kernel
theorem dX7_pass_28 : decode cX7_pass 28 = .ok (.dup, 1) := by decide +kernel
theorem dX7_pass_29 : decode cX7_pass 29 = .ok (.ldc 160, 2) := by decide +kernel
theorem dX7_pass_31 : decode cX7_pass 31 = .ok (.invokespecial 70, 3) := by decide +kernel
theorem dX7_pass_34 : decode cX7_pass 34 = .ok (.athrow, 1) := by decide +kernel
theorem dX7_pass_35 : decode cX7_pass 35 = .ok (.aload_n 0, 1) := by decide +kernel
theorem dX7_pass_36 : decode cX7_pass 36 = .ok (.iload_n 2, 1) := by decide +kernel
theorem dX7_pass_37 : decode cX7_pass 37 = .ok (.invokevirtual 145, 3) := by decide +kernel
theorem dX7_pass_40 : decode cX7_pass 40 = .ok (.aload_n 0, 1) := by decide +kernel
theorem dX7_pass_41 : decode cX7_pass 41 = .ok (.getfield 47, 3) := by decide +kernel
theorem dX7_pass_44 : decode cX7_pass 44 = .ok (.getfield 162, 3) := by decide +kernel
theorem dX7_pass_47 : decode cX7_pass 47 = .ok (.iload_n 1, 1) := by decide +kernel
theorem dX7_pass_48 : decode cX7_pass 48 = .ok (.iaload, 1) := by decide +kernel
theorem dX7_pass_49 : decode cX7_pass 49 = .ok (.istore 4, 2) := by decide +kernel
theorem dX7_pass_51 : decode cX7_pass 51 = .ok (.iload 4, 2) := by decide +kernel
theorem dX7_pass_53 : decode cX7_pass 53 = .ok (.ifCond .ne 5, 3) := by decide +kernel
theorem dX7_pass_56 : decode cX7_pass 56 = .ok (.iconst (-1), 1) := by decide +kernel
theorem dX7_pass_57 : decode cX7_pass 57 = .ok (.ireturn, 1) := by decide +kernel
theorem dX7_pass_58 : decode cX7_pass 58 = .ok (.aload_n 0, 1) := by decide +kernel
theorem dX7_pass_59 : decode cX7_pass 59 = .ok (.iload_n 3, 1) := by decide +kernel
theorem dX7_pass_60 : decode cX7_pass 60 = .ok (.iload_n 2, 1) := by decide +kernel
theorem dX7_pass_61 : decode cX7_pass 61 = .ok (.iload 4, 2) := by decide +kernel
theorem dX7_pass_63 : decode cX7_pass 63 = .ok (.invokevirtual 123, 3) := by decide +kernel
theorem dX7_pass_66 : decode cX7_pass 66 = .ok (.aload_n 0, 1) := by decide +kernel
theorem dX7_pass_67 : decode cX7_pass 67 = .ok (.getfield 40, 3) := by decide +kernel
theorem dX7_pass_70 : decode cX7_pass 70 = .ok (.invokevirtual 127, 3) := by decide +kernel
theorem dX7_pass_73 : decode cX7_pass 73 = .ok (.if_icmp .le 6, 3) := by decide +kernel
theorem dX7_pass_76 : decode cX7_pass 76 = .ok (.bipush (-2), 2) := by decide +kernel
theorem dX7_pass_78 : decode cX7_pass 78 = .ok (.ireturn, 1) := by decide +kernel
theorem dX7_pass_79 : decode cX7_pass 79 = .ok (.aload_n 0, 1) := by decide +kernel
theorem dX7_pass_80 : decode cX7_pass 80 = .ok (.getfield 47, 3) := by decide +kernel
theorem dX7_pass_83 : decode cX7_pass 83 = .ok (.getfield 157, 3) := by decide +kernel
theorem dX7_pass_86 : decode cX7_pass 86 = .ok (.iload_n 1, 1) := by decide +kernel
theorem dX7_pass_87 : decode cX7_pass 87 = .ok (.iload_n 2, 1) := by decide +kernel
theorem dX7_pass_88 : decode cX7_pass 88 = .ok (.iastore, 1) := by decide +kernel
theorem dX7_pass_89 : decode cX7_pass 89 = .ok (.aload_n 0, 1) := by decide +kernel
theorem dX7_pass_90 : decode cX7_pass 90 = .ok (.iload_n 3, 1) := by decide +kernel
theorem dX7_pass_91 : decode cX7_pass 91 = .ok (.iload_n 2, 1) := by decide +kernel
theorem dX7_pass_92 : decode cX7_pass 92 = .ok (.iload 4, 2) := by decide +kernel
theorem dX7_pass_94 : decode cX7_pass 94 = .ok (.invokevirtual 134, 3) := by decide +kernel
theorem dX7_pass_97 : decode cX7_pass 97 = .ok (.ireturn, 1) := by decide +kernel
set_option maxRecDepth 20000 in
theorem ggX7_breaks_X7_checkCopper : GoodIn wsX7_breaks wsX7_checkCopper := goodIn_ca (goodIn_r _ [7, 8, 9, 1, 10, 22, 23, 24, 25, 26, 27, 28, 29, 30, 31, 32, 33, 34] (by decide +kernel) (by decide +kernel)) (goodIn_sub (fun _ h => List.mem_cons_of_mem _ (List.mem_append_right _ h)) (by decide +kernel))
set_option maxRecDepth 20000 in
theorem gX7_breaks_X7_checkCopper : GoodIn wsX7_breaks (wsV RX7 154 RX7 yX7_checkCopper wsX7_checkCopper) := goodIn_app (goodIn_of _ (by decide +kernel)) ggX7_breaks_X7_checkCopper
set_option maxRecDepth 20000 in
theorem ggX7_breaks_X1_breakOff : GoodIn wsX7_breaks wsX1_breakOff := goodIn_r _ [15, 16, 17, 18, 19, 20, 21, 31, 32, 33, 34] (by decide +kernel) (by decide +kernel)
set_option maxRecDepth 20000 in
theorem gX7_breaks_X1_breakOff : GoodIn wsX7_breaks (wsV RX7 165 RX1 yX1_breakOff wsX1_breakOff) := goodIn_app (goodIn_of _ (by decide +kernel)) ggX7_breaks_X1_breakOff
theorem dX7_breaks_0 : decode cX7_breaks 0 = .ok (.aload_n 0, 1) := by decide +kernel
theorem dX7_breaks_1 : decode cX7_breaks 1 = .ok (.iload_n 1, 1) := by decide +kernel
theorem dX7_breaks_2 : decode cX7_breaks 2 = .ok (.invokevirtual 154, 3) := by decide +kernel
theorem dX7_breaks_5 : decode cX7_breaks 5 = .ok (.aload_n 0, 1) := by decide +kernel
theorem dX7_breaks_6 : decode cX7_breaks 6 = .ok (.getfield 47, 3) := by decide +kernel
theorem dX7_breaks_9 : decode cX7_breaks 9 = .ok (.getfield 162, 3) := by decide +kernel
theorem dX7_breaks_12 : decode cX7_breaks 12 = .ok (.iload_n 1, 1) := by decide +kernel
theorem dX7_breaks_13 : decode cX7_breaks 13 = .ok (.iaload, 1) := by decide +kernel
theorem dX7_breaks_14 : decode cX7_breaks 14 = .ok (.ifCond .ne 5, 3) := by decide +kernel
theorem dX7_breaks_17 : decode cX7_breaks 17 = .ok (.iconst (-1), 1) := by decide +kernel
theorem dX7_breaks_18 : decode cX7_breaks 18 = .ok (.ireturn, 1) := by decide +kernel
theorem dX7_breaks_19 : decode cX7_breaks 19 = .ok (.aload_n 0, 1) := by decide +kernel
theorem dX7_breaks_20 : decode cX7_breaks 20 = .ok (.getfield 47, 3) := by decide +kernel
theorem dX7_breaks_23 : decode cX7_breaks 23 = .ok (.iload_n 1, 1) := by decide +kernel
theorem dX7_breaks_24 : decode cX7_breaks 24 = .ok (.invokevirtual 165, 3) := by decide +kernel
theorem dX7_breaks_27 : decode cX7_breaks 27 = .ok (.ireturn, 1) := by decide +kernel
set_option maxRecDepth 20000 in
theorem ggX7_copperTold_X7_checkCopper : GoodIn wsX7_copperTold wsX7_checkCopper := goodIn_ca (goodIn_r _ [10, 11, 12, 3, 13, 14, 15, 16, 17, 18, 19, 20, 21, 22, 23, 24, 25, 26] (by decide +kernel) (by decide +kernel)) (goodIn_sub (fun _ h => List.mem_cons_of_mem _ (List.mem_append_right _ h)) (by decide +kernel))
set_option maxRecDepth 20000 in
theorem gX7_copperTold_X7_checkCopper : GoodIn wsX7_copperTold (wsV RX7 154 RX7 yX7_checkCopper wsX7_checkCopper) := goodIn_app (goodIn_of _ (by decide +kernel)) ggX7_copperTold_X7_checkCopper
theorem dX7_copperTold_0 : decode cX7_copperTold 0 = .ok (.aload_n 0, 1) := by decide +kernel
theorem dX7_copperTold_1 : decode cX7_copperTold 1 = .ok (.iload_n 1, 1) := by decide +kernel
theorem dX7_copperTold_2 : decode cX7_copperTold 2 = .ok (.invokevirtual 154, 3) := by decide +kernel
theorem dX7_copperTold_5 : decode cX7_copperTold 5 = .ok (.iload_n 2, 1) := by decide +kernel
theorem dX7_copperTold_6 : decode cX7_copperTold 6 = .ok (.lookupswitch 46 #[(0, 26), (1, 36)], 26) := by decide +kernel
theorem dX7_copperTold_32 : decode cX7_copperTold 32 = .ok (.aload_n 0, 1) := by decide +kernel
theorem dX7_copperTold_33 : decode cX7_copperTold 33 = .ok (.getfield 47, 3) := by decide +kernel
theorem dX7_copperTold_36 : decode cX7_copperTold 36 = .ok (.getfield 157, 3) := by decide +kernel
theorem dX7_copperTold_39 : decode cX7_copperTold 39 = .ok (.iload_n 1, 1) := by decide +kernel
theorem dX7_copperTold_40 : decode cX7_copperTold 40 = .ok (.iaload, 1) := by decide +kernel
theorem dX7_copperTold_41 : decode cX7_copperTold 41 = .ok (.ireturn, 1) := by decide +kernel
theorem dX7_copperTold_42 : decode cX7_copperTold 42 = .ok (.aload_n 0, 1) := by decide +kernel
theorem dX7_copperTold_43 : decode cX7_copperTold 43 = .ok (.getfield 47, 3) := by decide +kernel
theorem dX7_copperTold_46 : decode cX7_copperTold 46 = .ok (.getfield 162, 3) := by decide +kernel
theorem dX7_copperTold_49 : decode cX7_copperTold 49 = .ok (.iload_n 1, 1) := by decide +kernel
theorem dX7_copperTold_50 : decode cX7_copperTold 50 = .ok (.iaload, 1) := by decide +kernel
theorem dX7_copperTold_51 : decode cX7_copperTold 51 = .ok (.ireturn, 1) := by decide +kernel
theorem dX7_copperTold_52 : decode cX7_copperTold 52 = .ok (.new 66, 3) := by decide +kernel
theorem dX7_copperTold_55 : decode cX7_copperTold 55 = .ok (.dup, 1) := by decide +kernel
theorem dX7_copperTold_56 : decode cX7_copperTold 56 = .ok (.ldc 168, 2) := by decide +kernel
theorem dX7_copperTold_58 : decode cX7_copperTold 58 = .ok (.invokespecial 70, 3) := by decide +kernel
theorem dX7_copperTold_61 : decode cX7_copperTold 61 = .ok (.athrow, 1) := by decide +kernel
set_option maxRecDepth 20000 in
theorem ggX7_feast_X7_checkFeast : GoodIn wsX7_feast wsX7_checkFeast := goodIn_ca (goodIn_ca (goodIn_ca (goodIn_r _ [11, 12, 13, 3, 6, 14, 15, 16, 17, 10, 18, 19, 20, 21, 22, 23, 24, 25, 26, 27, 28, 29, 30, 128, 129, 130, 131, 132, 133, 134, 135, 136, 137, 138, 139, 140] (by decide +kernel) (by decide +kernel)) (goodIn_sub (fun _ h => List.mem_cons_of_mem _ (List.mem_append_left _ (List.mem_append_left _ (List.mem_append_right _ h)))) (by decide +kernel))) (goodIn_sub (fun _ h => List.mem_cons_of_mem _ (List.mem_append_left _ (List.mem_append_right _ h))) (by decide +kernel))) (goodIn_sub (fun _ h => List.mem_cons_of_mem _ (List.mem_append_right _ h)) (by decide +kernel))
set_option maxRecDepth 20000 in
theorem gX7_feast_X7_checkFeast : GoodIn wsX7_feast (wsV RX7 170 RX7 yX7_checkFeast wsX7_checkFeast) := goodIn_app (goodIn_of _ (by decide +kernel)) ggX7_feast_X7_checkFeast
set_option maxRecDepth 20000 in
theorem ggX7_feast_X2_inForce : GoodIn wsX7_feast wsX2_inForce := goodIn_r _ [35, 36, 37, 141, 142, 143, 144, 145, 146, 147, 148] (by decide +kernel) (by decide +kernel)
set_option maxRecDepth 20000 in
theorem gX7_feast_X2_inForce : GoodIn wsX7_feast (wsV RX7 112 RX2 yX2_inForce wsX2_inForce) := goodIn_app (goodIn_of _ (by decide +kernel)) ggX7_feast_X2_inForce
set_option maxRecDepth 20000 in
theorem ggX7_feast_X2_witnessShare : GoodIn wsX7_feast wsX2_witnessShare := goodIn_r _ [41, 42, 141, 142, 143, 144, 145, 146, 147, 148] (by decide +kernel) (by decide +kernel)
set_option maxRecDepth 20000 in
theorem gX7_feast_X2_witnessShare : GoodIn wsX7_feast (wsV RX7 174 RX2 yX2_witnessShare wsX2_witnessShare) := goodIn_app (goodIn_of _ (by decide +kernel)) ggX7_feast_X2_witnessShare
set_option maxRecDepth 20000 in
theorem ggX7_feast_J6_bitCount_0f7a4 : GoodIn wsX7_feast wsJ6_bitCount_0f7a4 := goodIn_r _ [46, 47, 48, 49] (by decide +kernel) (by decide +kernel)
set_option maxRecDepth 20000 in
theorem gX7_feast_J6_bitCount_0f7a4 : GoodIn wsX7_feast (va_wsS RX7 177 yJ6_bitCount_0f7a4 wsJ6_bitCount_0f7a4) := goodIn_app (goodIn_of _ (by decide +kernel)) ggX7_feast_J6_bitCount_0f7a4
set_option maxRecDepth 20000 in
theorem ggX7_feast_X7_debtsMadeByFeast : GoodIn wsX7_feast wsX7_debtsMadeByFeast := goodIn_r _ [53, 3, 6, 21, 22, 10, 23, 54, 55, 56, 57, 5, 58, 59, 60, 61, 1, 2, 62, 63, 64, 65, 66, 67, 68, 69, 70, 71, 72, 73, 74, 31, 32, 33, 34, 35, 36, 37, 75, 76, 77, 78, 79, 80, 81, 82, 128, 129, 130, 131, 132, 133, 134, 135, 136, 137, 138, 139, 140, 149, 150, 151, 152, 153, 141, 142, 143, 144, 145, 146, 147, 148] (by decide +kernel) (by decide +kernel)
set_option maxRecDepth 20000 in
theorem gX7_feast_X7_debtsMadeByFeast : GoodIn wsX7_feast (wsV RX7 182 RX7 yX7_debtsMadeByFeast wsX7_debtsMadeByFeast) := goodIn_app (goodIn_of _ (by decide +kernel)) ggX7_feast_X7_debtsMadeByFeast
set_option maxRecDepth 20000 in
theorem ggX7_feast_X3_room : GoodIn wsX7_feast wsX3_room := goodIn_r _ [86, 67, 149, 150, 151, 152, 153] (by decide +kernel) (by decide +kernel)
set_option maxRecDepth 20000 in
theorem gX7_feast_X3_room : GoodIn wsX7_feast (wsV RX7 127 RX3 yX3_room wsX3_room) := goodIn_app (goodIn_of _ (by decide +kernel)) ggX7_feast_X3_room
set_option maxRecDepth 20000 in
theorem ggX7_feast_X7_isIn : GoodIn wsX7_feast wsX7_isIn := goodIn_r _ [23] (by decide +kernel) (by decide +kernel)
set_option maxRecDepth 20000 in
theorem gX7_feast_X7_isIn : GoodIn wsX7_feast (va_wsS RX7 185 yX7_isIn wsX7_isIn) := goodIn_app (goodIn_of _ (by decide +kernel)) ggX7_feast_X7_isIn
set_option maxRecDepth 20000 in
theorem ggX7_feast_X0_moveBlankets : GoodIn wsX7_feast wsX0_moveBlankets := goodIn_r _ [91, 92, 137, 138, 139, 140] (by decide +kernel) (by decide +kernel)
set_option maxRecDepth 20000 in
theorem gX7_feast_X0_moveBlankets : GoodIn wsX7_feast (wsV RX7 131 RX0 yX0_moveBlankets wsX0_moveBlankets) := goodIn_app (goodIn_of _ (by decide +kernel)) ggX7_feast_X0_moveBlankets
set_option maxRecDepth 20000 in
theorem ggX7_feast_X7_recordGiven : GoodIn wsX7_feast wsX7_recordGiven := goodIn_r _ [96, 5, 3, 97, 1, 2, 98, 99, 100, 65, 101, 67, 68, 102, 103, 60, 104, 105, 106, 107, 108, 69, 70, 71, 72, 73, 74, 109, 110, 111, 112, 113, 114, 115, 116, 117, 118, 31, 32, 33, 34, 35, 36, 37, 75, 76, 77, 78, 79, 80, 81, 82, 59, 61, 119, 120, 121, 122, 123, 124, 125, 126, 127, 128, 129, 130, 131, 132, 133, 134, 135, 136, 137, 138, 139, 140, 149, 150, 151, 152, 153, 141, 142, 143, 144, 145, 146, 147, 148] (by decide +kernel) (by decide +kernel)
set_option maxRecDepth 20000 in
theorem gX7_feast_X7_recordGiven : GoodIn wsX7_feast (wsV RX7 134 RX7 yX7_recordGiven wsX7_recordGiven) := goodIn_app (goodIn_of _ (by decide +kernel)) ggX7_feast_X7_recordGiven
theorem dX7_feast_0 : decode cX7_feast 0 = .ok (.aload_n 0, 1) := by decide +kernel
theorem dX7_feast_1 : decode cX7_feast 1 = .ok (.iload_n 1, 1) := by decide +kernel
theorem dX7_feast_2 : decode cX7_feast 2 = .ok (.iload_n 2, 1) := by decide +kernel
theorem dX7_feast_3 : decode cX7_feast 3 = .ok (.iload_n 3, 1) := by decide +kernel
theorem dX7_feast_4 : decode cX7_feast 4 = .ok (.iload 4, 2) := by decide +kernel
theorem dX7_feast_6 : decode cX7_feast 6 = .ok (.invokevirtual 170, 3) := by decide +kernel
theorem dX7_feast_9 : decode cX7_feast 9 = .ok (.aload_n 0, 1) := by decide +kernel
theorem dX7_feast_10 : decode cX7_feast 10 = .ok (.getfield 26, 3) := by decide +kernel
theorem dX7_feast_13 : decode cX7_feast 13 = .ok (.aload_n 0, 1) := by decide +kernel
theorem dX7_feast_14 : decode cX7_feast 14 = .ok (.getfield 26, 3) := by decide +kernel
theorem dX7_feast_17 : decode cX7_feast 17 = .ok (.aload_n 0, 1) := by decide +kernel
theorem dX7_feast_18 : decode cX7_feast 18 = .ok (.getfield 58, 3) := by decide +kernel
theorem dX7_feast_21 : decode cX7_feast 21 = .ok (.invokevirtual 112, 3) := by decide +kernel
theorem dX7_feast_24 : decode cX7_feast 24 = .ok (.invokevirtual 174, 3) := by decide +kernel
theorem dX7_feast_27 : decode cX7_feast 27 = .ok (.istore 5, 2) := by decide +kernel
theorem dX7_feast_29 : decode cX7_feast 29 = .ok (.iload_n 2, 1) := by decide +kernel
theorem dX7_feast_30 : decode cX7_feast 30 = .ok (.invokestatic 177, 3) := by decide +kernel
theorem dX7_feast_33 : decode cX7_feast 33 = .ok (.iload_n 3, 1) := by decide +kernel
theorem dX7_feast_34 : decode cX7_feast 34 = .ok (.imul, 1) := by decide +kernel
theorem dX7_feast_35 : decode cX7_feast 35 = .ok (.iload 4, 2) := by decide +kernel
theorem dX7_feast_37 : decode cX7_feast 37 = .ok (.invokestatic 177, 3) := by decide +kernel
theorem dX7_feast_40 : decode cX7_feast 40 = .ok (.iload 5, 2) := by decide +kernel
theorem dX7_feast_42 : decode cX7_feast 42 = .ok (.imul, 1) := by decide +kernel
theorem dX7_feast_43 : decode cX7_feast 43 = .ok (.iadd, 1) := by decide +kernel
theorem dX7_feast_44 : decode cX7_feast 44 = .ok (.istore 6, 2) := by decide +kernel
theorem dX7_feast_46 : decode cX7_feast 46 = .ok (.aload_n 0, 1) := by decide +kernel
theorem dX7_feast_47 : decode cX7_feast 47 = .ok (.getfield 33, 3) := by decide +kernel
theorem dX7_feast_50 : decode cX7_feast 50 = .ok (.getfield 119, 3) := by decide +kernel
theorem dX7_feast_53 : decode cX7_feast 53 = .ok (.iload_n 1, 1) := by decide +kernel
theorem dX7_feast_54 : decode cX7_feast 54 = .ok (.iaload, 1) := by decide +kernel
theorem dX7_feast_55 : decode cX7_feast 55 = .ok (.iload 6, 2) := by decide +kernel
theorem dX7_feast_57 : decode cX7_feast 57 = .ok (.if_icmp .ge 5, 3) := by decide +kernel
theorem dX7_feast_60 : decode cX7_feast 60 = .ok (.iconst (-1), 1) := by decide +kernel
theorem dX7_feast_61 : decode cX7_feast 61 = .ok (.ireturn, 1) := by decide +kernel
theorem dX7_feast_62 : decode cX7_feast 62 = .ok (.aload_n 0, 1) := by decide +kernel
theorem dX7_feast_63 : decode cX7_feast 63 = .ok (.iload_n 1, 1) := by decide +kernel
theorem dX7_feast_64 : decode cX7_feast 64 = .ok (.iload_n 2, 1) := by decide +kernel
theorem dX7_feast_65 : decode cX7_feast 65 = .ok (.iload_n 3, 1) := by decide +kernel
theorem dX7_feast_66 : decode cX7_feast 66 = .ok (.invokevirtual 182, 3) := by decide +kernel
theorem dX7_feast_69 : decode cX7_feast 69 = .ok (.aload_n 0, 1) := by decide +kernel
theorem dX7_feast_70 : decode cX7_feast 70 = .ok (.getfield 40, 3) := by decide +kernel
theorem dX7_feast_73 : decode cX7_feast 73 = .ok (.invokevirtual 127, 3) := by decide +kernel
theorem dX7_feast_76 : decode cX7_feast 76 = .ok (.if_icmp .le 6, 3) := by decide +kernel
theorem dX7_feast_79 : decode cX7_feast 79 = .ok (.bipush (-2), 2) := by decide +kernel
theorem dX7_feast_81 : decode cX7_feast 81 = .ok (.ireturn, 1) := by decide +kernel
theorem dX7_feast_82 : decode cX7_feast 82 = .ok (.iconst 0, 1) := by decide +kernel
theorem dX7_feast_83 : decode cX7_feast 83 = .ok (.istore 7, 2) := by decide +kernel
theorem dX7_feast_85 : decode cX7_feast 85 = .ok (.iload 7, 2) := by decide +kernel
theorem dX7_feast_87 : decode cX7_feast 87 = .ok (.aload_n 0, 1) := by decide +kernel
theorem dX7_feast_88 : decode cX7_feast 88 = .ok (.getfield 33, 3) := by decide +kernel
theorem dX7_feast_91 : decode cX7_feast 91 = .ok (.getfield 73, 3) := by decide +kernel
theorem dX7_feast_94 : decode cX7_feast 94 = .ok (.if_icmp .ge 63, 3) := by decide +kernel
theorem dX7_feast_97 : decode cX7_feast 97 = .ok (.iload_n 2, 1) := by decide +kernel
theorem dX7_feast_98 : decode cX7_feast 98 = .ok (.iload 7, 2) := by decide +kernel
theorem dX7_feast_100 : decode cX7_feast 100 = .ok (.invokestatic 185, 3) := by decide +kernel
theorem dX7_feast_103 : decode cX7_feast 103 = .ok (.ifCond .eq 26, 3) := by decide +kernel
theorem dX7_feast_106 : decode cX7_feast 106 = .ok (.aload_n 0, 1) := by decide +kernel
theorem dX7_feast_107 : decode cX7_feast 107 = .ok (.getfield 33, 3) := by decide +kernel
theorem dX7_feast_110 : decode cX7_feast 110 = .ok (.iload_n 1, 1) := by decide +kernel
theorem dX7_feast_111 : decode cX7_feast 111 = .ok (.iload 7, 2) := by decide +kernel
theorem dX7_feast_113 : decode cX7_feast 113 = .ok (.iload_n 3, 1) := by decide +kernel
theorem dX7_feast_114 : decode cX7_feast 114 = .ok (.invokevirtual 131, 3) := by decide +kernel
theorem dX7_feast_117 : decode cX7_feast 117 = .ok (.aload_n 0, 1) := by decide +kernel
theorem dX7_feast_118 : decode cX7_feast 118 = .ok (.iload_n 1, 1) := by decide +kernel
theorem dX7_feast_119 : decode cX7_feast 119 = .ok (.iload 7, 2) := by decide +kernel
theorem dX7_feast_121 : decode cX7_feast 121 = .ok (.iload_n 3, 1) := by decide +kernel
theorem dX7_feast_122 : decode cX7_feast 122 = .ok (.invokevirtual 134, 3) := by decide +kernel
theorem dX7_feast_125 : decode cX7_feast 125 = .ok (.pop, 1) := by decide +kernel
theorem dX7_feast_126 : decode cX7_feast 126 = .ok (.goto 25, 3) := by decide +kernel
theorem dX7_feast_129 : decode cX7_feast 129 = .ok (.iload 4, 2) := by decide +kernel
theorem dX7_feast_131 : decode cX7_feast 131 = .ok (.iload 7, 2) := by decide +kernel
theorem dX7_feast_133 : decode cX7_feast 133 = .ok (.invokestatic 185, 3) := by decide +kernel
theorem dX7_feast_136 : decode cX7_feast 136 = .ok (.ifCond .eq 15, 3) := by decide +kernel
theorem dX7_feast_139 : decode cX7_feast 139 = .ok (.aload_n 0, 1) := by decide +kernel
theorem dX7_feast_140 : decode cX7_feast 140 = .ok (.getfield 33, 3) := by decide +kernel
theorem dX7_feast_143 : decode cX7_feast 143 = .ok (.iload_n 1, 1) := by decide +kernel
theorem dX7_feast_144 : decode cX7_feast 144 = .ok (.iload 7, 2) := by decide +kernel
theorem dX7_feast_146 : decode cX7_feast 146 = .ok (.iload 5, 2) := by decide +kernel
theorem dX7_feast_148 : decode cX7_feast 148 = .ok (.invokevirtual 131, 3) := by decide +kernel
theorem dX7_feast_151 : decode cX7_feast 151 = .ok (.iinc 7 1, 3) := by decide +kernel
theorem dX7_feast_154 : decode cX7_feast 154 = .ok (.goto (-69), 3) := by decide +kernel
theorem dX7_feast_157 : decode cX7_feast 157 = .ok (.iload 6, 2) := by decide +kernel
theorem dX7_feast_159 : decode cX7_feast 159 = .ok (.ireturn, 1) := by decide +kernel
set_option maxRecDepth 20000 in
theorem ggX7_died_X7_checkChief : GoodIn wsX7_died wsX7_checkChief := goodIn_ca (goodIn_r _ [12, 13, 14, 3, 15, 48, 49, 50, 51, 52, 53, 54, 55, 56, 57, 58, 59, 60] (by decide +kernel) (by decide +kernel)) (goodIn_sub (fun _ h => List.mem_cons_of_mem _ (List.mem_append_left _ (List.mem_append_right _ h))) (by decide +kernel))
set_option maxRecDepth 20000 in
theorem gX7_died_X7_checkChief : GoodIn wsX7_died (wsV RX7 140 RX7 yX7_checkChief wsX7_checkChief) := goodIn_app (goodIn_of _ (by decide +kernel)) ggX7_died_X7_checkChief
set_option maxRecDepth 20000 in
theorem ggX7_died_X7_checkLives : GoodIn wsX7_died wsX7_checkLives := goodIn_ca (goodIn_r _ [19, 20, 21, 3, 5, 48, 49, 50, 51, 52, 53, 54, 55, 56, 57, 58, 59, 60] (by decide +kernel) (by decide +kernel)) (goodIn_sub (fun _ h => List.mem_cons_of_mem _ (List.mem_append_right _ h)) (by decide +kernel))
set_option maxRecDepth 20000 in
theorem gX7_died_X7_checkLives : GoodIn wsX7_died (wsV RX7 145 RX7 yX7_checkLives wsX7_checkLives) := goodIn_app (goodIn_of _ (by decide +kernel)) ggX7_died_X7_checkLives
set_option maxRecDepth 20000 in
theorem ggX7_died_X0_moveBlankets : GoodIn wsX7_died wsX0_moveBlankets := goodIn_r _ [26, 27, 57, 58, 59, 60] (by decide +kernel) (by decide +kernel)
set_option maxRecDepth 20000 in
theorem gX7_died_X0_moveBlankets : GoodIn wsX7_died (wsV RX7 131 RX0 yX0_moveBlankets wsX0_moveBlankets) := goodIn_app (goodIn_of _ (by decide +kernel)) ggX7_died_X0_moveBlankets
set_option maxRecDepth 20000 in
theorem ggX7_died_X1_inherit : GoodIn wsX7_died wsX1_inherit := goodIn_r _ [32, 33, 34, 61, 62, 63, 64] (by decide +kernel) (by decide +kernel)
set_option maxRecDepth 20000 in
theorem gX7_died_X1_inherit : GoodIn wsX7_died (wsV RX7 195 RX1 yX1_inherit wsX1_inherit) := goodIn_app (goodIn_of _ (by decide +kernel)) ggX7_died_X1_inherit
set_option maxRecDepth 20000 in
theorem ggX7_died_X3_inherit : GoodIn wsX7_died wsX3_inherit := goodIn_r _ [39, 40, 41, 42, 43, 44, 45, 46, 38, 47, 65, 66, 67, 68, 69] (by decide +kernel) (by decide +kernel)
set_option maxRecDepth 20000 in
theorem gX7_died_X3_inherit : GoodIn wsX7_died (wsV RX7 199 RX3 yX3_inherit wsX3_inherit) := goodIn_app (goodIn_of _ (by decide +kernel)) ggX7_died_X3_inherit
theorem dX7_died_0 : decode cX7_died 0 = .ok (.aload_n 0, 1) := by decide +kernel
theorem dX7_died_1 : decode cX7_died 1 = .ok (.iload_n 1, 1) := by decide +kernel
theorem dX7_died_2 : decode cX7_died 2 = .ok (.invokevirtual 140, 3) := by decide +kernel
theorem dX7_died_5 : decode cX7_died 5 = .ok (.aload_n 0, 1) := by decide +kernel
theorem dX7_died_6 : decode cX7_died 6 = .ok (.iload_n 2, 1) := by decide +kernel
theorem dX7_died_7 : decode cX7_died 7 = .ok (.invokevirtual 140, 3) := by decide +kernel
theorem dX7_died_10 : decode cX7_died 10 = .ok (.iload_n 1, 1) := by decide +kernel
theorem dX7_died_11 : decode cX7_died 11 = .ok (.iload_n 2, 1) := by decide +kernel
theorem dX7_died_12 : decode cX7_died 12 = .ok (.if_icmp .ne 13, 3) := by decide +kernel
theorem dX7_died_15 : decode cX7_died 15 = .ok (.new 66, 3) := by decide +kernel
theorem dX7_died_18 : decode cX7_died 18 = .ok (.dup, 1) := by decide +kernel
theorem dX7_died_19 : decode cX7_died 19 = .ok (.ldc 189, 2) := by decide +kernel
theorem dX7_died_21 : decode cX7_died 21 = .ok (.invokespecial 70, 3) := by decide +kernel
theorem dX7_died_24 : decode cX7_died 24 = .ok (.athrow, 1) := by decide +kernel
theorem dX7_died_25 : decode cX7_died 25 = .ok (.aload_n 0, 1) := by decide +kernel
theorem dX7_died_26 : decode cX7_died 26 = .ok (.iload_n 1, 1) := by decide +kernel
theorem dX7_died_27 : decode cX7_died 27 = .ok (.invokevirtual 145, 3) := by decide +kernel
theorem dX7_died_30 : decode cX7_died 30 = .ok (.aload_n 0, 1) := by decide +kernel
theorem dX7_died_31 : decode cX7_died 31 = .ok (.iload_n 2, 1) := by decide +kernel
theorem dX7_died_32 : decode cX7_died 32 = .ok (.invokevirtual 145, 3) := by decide +kernel
theorem dX7_died_35 : decode cX7_died 35 = .ok (.aload_n 0, 1) := by decide +kernel
theorem dX7_died_36 : decode cX7_died 36 = .ok (.getfield 33, 3) := by decide +kernel
theorem dX7_died_39 : decode cX7_died 39 = .ok (.iload_n 1, 1) := by decide +kernel
theorem dX7_died_40 : decode cX7_died 40 = .ok (.iload_n 2, 1) := by decide +kernel
theorem dX7_died_41 : decode cX7_died 41 = .ok (.aload_n 0, 1) := by decide +kernel
theorem dX7_died_42 : decode cX7_died 42 = .ok (.getfield 33, 3) := by decide +kernel
theorem dX7_died_45 : decode cX7_died 45 = .ok (.getfield 119, 3) := by decide +kernel
theorem dX7_died_48 : decode cX7_died 48 = .ok (.iload_n 1, 1) := by decide +kernel
theorem dX7_died_49 : decode cX7_died 49 = .ok (.iaload, 1) := by decide +kernel
theorem dX7_died_50 : decode cX7_died 50 = .ok (.invokevirtual 131, 3) := by decide +kernel
theorem dX7_died_53 : decode cX7_died 53 = .ok (.aload_n 0, 1) := by decide +kernel
theorem dX7_died_54 : decode cX7_died 54 = .ok (.getfield 33, 3) := by decide +kernel
theorem dX7_died_57 : decode cX7_died 57 = .ok (.getfield 191, 3) := by decide +kernel
theorem dX7_died_60 : decode cX7_died 60 = .ok (.iload_n 1, 1) := by decide +kernel
theorem dX7_died_61 : decode cX7_died 61 = .ok (.iconst 0, 1) := by decide +kernel
theorem dX7_died_62 : decode cX7_died 62 = .ok (.bastore, 1) := by decide +kernel
theorem dX7_died_63 : decode cX7_died 63 = .ok (.aload_n 0, 1) := by decide +kernel
theorem dX7_died_64 : decode cX7_died 64 = .ok (.getfield 47, 3) := by decide +kernel
theorem dX7_died_67 : decode cX7_died 67 = .ok (.iload_n 1, 1) := by decide +kernel
theorem dX7_died_68 : decode cX7_died 68 = .ok (.iload_n 2, 1) := by decide +kernel
theorem dX7_died_69 : decode cX7_died 69 = .ok (.invokevirtual 195, 3) := by decide +kernel
theorem dX7_died_72 : decode cX7_died 72 = .ok (.aload_n 0, 1) := by decide +kernel
theorem dX7_died_73 : decode cX7_died 73 = .ok (.getfield 40, 3) := by decide +kernel
theorem dX7_died_76 : decode cX7_died 76 = .ok (.iload_n 1, 1) := by decide +kernel
theorem dX7_died_77 : decode cX7_died 77 = .ok (.iload_n 2, 1) := by decide +kernel
theorem dX7_died_78 : decode cX7_died 78 = .ok (.invokevirtual 199, 3) := by decide +kernel
theorem dX7_died_81 : decode cX7_died 81 = .ok (.ireturn, 1) := by decide +kernel
set_option maxRecDepth 20000 in
theorem ggX7_wait_X7_growLoans : GoodIn wsX7_wait wsX7_growLoans := goodIn_r _ [8, 9, 3, 10, 11, 12, 13, 14, 15, 16, 17, 18, 19, 20, 21, 22, 23, 24, 25, 26, 27, 28, 29, 30, 31, 32, 33, 34, 35, 36, 37, 38, 39, 40, 41, 42, 43, 44, 45, 46, 47, 48, 49, 50, 51, 52, 53, 54, 55, 56, 57, 58] (by decide +kernel) (by decide +kernel)
set_option maxRecDepth 20000 in
theorem gX7_wait_X7_growLoans : GoodIn wsX7_wait (wsV RX7 203 RX7 yX7_growLoans wsX7_growLoans) := goodIn_app (goodIn_of _ (by decide +kernel)) ggX7_wait_X7_growLoans
theorem dX7_wait_0 : decode cX7_wait 0 = .ok (.iload_n 1, 1) := by decide +kernel
theorem dX7_wait_1 : decode cX7_wait 1 = .ok (.ifCond .lt 21, 3) := by decide +kernel
theorem dX7_wait_4 : decode cX7_wait 4 = .ok (.iload_n 1, 1) := by decide +kernel
theorem dX7_wait_5 : decode cX7_wait 5 = .ok (.bipush 100, 2) := by decide +kernel
theorem dX7_wait_7 : decode cX7_wait 7 = .ok (.if_icmp .gt 15, 3) := by decide +kernel
theorem dX7_wait_10 : decode cX7_wait 10 = .ok (.aload_n 0, 1) := by decide +kernel
theorem dX7_wait_11 : decode cX7_wait 11 = .ok (.getfield 58, 3) := by decide +kernel
theorem dX7_wait_14 : decode cX7_wait 14 = .ok (.iload_n 1, 1) := by decide +kernel
theorem dX7_wait_15 : decode cX7_wait 15 = .ok (.iadd, 1) := by decide +kernel
theorem dX7_wait_16 : decode cX7_wait 16 = .ok (.sipush 1000, 3) := by decide +kernel
theorem dX7_wait_19 : decode cX7_wait 19 = .ok (.if_icmp .le 13, 3) := by decide +kernel
theorem dX7_wait_22 : decode cX7_wait 22 = .ok (.new 66, 3) := by decide +kernel
theorem dX7_wait_25 : decode cX7_wait 25 = .ok (.dup, 1) := by decide +kernel
theorem dX7_wait_26 : decode cX7_wait 26 = .ok (.ldc 201, 2) := by decide +kernel
theorem dX7_wait_28 : decode cX7_wait 28 = .ok (.invokespecial 70, 3) := by decide +kernel
theorem dX7_wait_31 : decode cX7_wait 31 = .ok (.athrow, 1) := by decide +kernel
theorem dX7_wait_32 : decode cX7_wait 32 = .ok (.iconst 0, 1) := by decide +kernel
theorem dX7_wait_33 : decode cX7_wait 33 = .ok (.istore_n 2, 1) := by decide +kernel
theorem dX7_wait_34 : decode cX7_wait 34 = .ok (.iload_n 2, 1) := by decide +kernel
theorem dX7_wait_35 : decode cX7_wait 35 = .ok (.iload_n 1, 1) := by decide +kernel
theorem dX7_wait_36 : decode cX7_wait 36 = .ok (.if_icmp .ge 23, 3) := by decide +kernel
theorem dX7_wait_39 : decode cX7_wait 39 = .ok (.aload_n 0, 1) := by decide +kernel
theorem dX7_wait_40 : decode cX7_wait 40 = .ok (.invokevirtual 203, 3) := by decide +kernel
theorem dX7_wait_43 : decode cX7_wait 43 = .ok (.aload_n 0, 1) := by decide +kernel
theorem dX7_wait_44 : decode cX7_wait 44 = .ok (.dup, 1) := by decide +kernel
theorem dX7_wait_45 : decode cX7_wait 45 = .ok (.getfield 58, 3) := by decide +kernel
theorem dX7_wait_48 : decode cX7_wait 48 = .ok (.iconst 1, 1) := by decide +kernel
theorem dX7_wait_49 : decode cX7_wait 49 = .ok (.iadd, 1) := by decide +kernel
theorem dX7_wait_50 : decode cX7_wait 50 = .ok (.putfield 58, 3) := by decide +kernel
theorem dX7_wait_53 : decode cX7_wait 53 = .ok (.iinc 2 1, 3) := by decide +kernel
theorem dX7_wait_56 : decode cX7_wait 56 = .ok (.goto (-22), 3) := by decide +kernel
theorem dX7_wait_59 : decode cX7_wait 59 = .ok (.aload_n 0, 1) := by decide +kernel
theorem dX7_wait_60 : decode cX7_wait 60 = .ok (.getfield 58, 3) := by decide +kernel
theorem dX7_wait_63 : decode cX7_wait 63 = .ok (.ireturn, 1) := by decide +kernel
set_option maxRecDepth 20000 in
theorem ggX7_debt_X3_isLoan : GoodIn wsX7_debt wsX3_isLoan := goodIn_r _ [15, 16, 26, 27, 28, 29, 30] (by decide +kernel) (by decide +kernel)
set_option maxRecDepth 20000 in
theorem gX7_debt_X3_isLoan : GoodIn wsX7_debt (wsV RX7 221 RX3 yX3_isLoan wsX3_isLoan) := goodIn_app (goodIn_of _ (by decide +kernel)) ggX7_debt_X3_isLoan
theorem dX7_debt_0 : decode cX7_debt 0 = .ok (.iload_n 1, 1) := by decide +kernel
theorem dX7_debt_1 : decode cX7_debt 1 = .ok (.ifCond .lt 14, 3) := by decide +kernel
theorem dX7_debt_4 : decode cX7_debt 4 = .ok (.iload_n 1, 1) := by decide +kernel
theorem dX7_debt_5 : decode cX7_debt 5 = .ok (.aload_n 0, 1) := by decide +kernel
theorem dX7_debt_6 : decode cX7_debt 6 = .ok (.getfield 40, 3) := by decide +kernel
theorem dX7_debt_9 : decode cX7_debt 9 = .ok (.getfield 206, 3) := by decide +kernel
theorem dX7_debt_12 : decode cX7_debt 12 = .ok (.if_icmp .lt 13, 3) := by decide +kernel
theorem dX7_debt_15 : decode cX7_debt 15 = .ok (.new 207, 3) := by decide +kernel
theorem dX7_debt_18 : decode cX7_debt 18 = .ok (.dup, 1) := by decide +kernel
theorem dX7_debt_19 : decode cX7_debt 19 = .ok (.ldc 209, 2) := by decide +kernel
theorem dX7_debt_21 : decode cX7_debt 21 = .ok (.invokespecial 211, 3) := by decide +kernel
theorem dX7_debt_24 : decode cX7_debt 24 = .ok (.athrow, 1) := by decide +kernel
theorem dX7_debt_25 : decode cX7_debt 25 = .ok (.iload_n 2, 1) := by decide +kernel
theorem dX7_debt_26 : decode cX7_debt 26 = .ok (.tableswitch 91 0 4 #[34, 44, 54, 64, 81], 34) := by decide +kernel
theorem dX7_debt_60 : decode cX7_debt 60 = .ok (.aload_n 0, 1) := by decide +kernel
theorem dX7_debt_61 : decode cX7_debt 61 = .ok (.getfield 40, 3) := by decide +kernel
theorem dX7_debt_64 : decode cX7_debt 64 = .ok (.getfield 212, 3) := by decide +kernel
theorem dX7_debt_67 : decode cX7_debt 67 = .ok (.iload_n 1, 1) := by decide +kernel
theorem dX7_debt_68 : decode cX7_debt 68 = .ok (.iaload, 1) := by decide +kernel
theorem dX7_debt_69 : decode cX7_debt 69 = .ok (.ireturn, 1) := by decide +kernel
theorem dX7_debt_70 : decode cX7_debt 70 = .ok (.aload_n 0, 1) := by decide +kernel
theorem dX7_debt_71 : decode cX7_debt 71 = .ok (.getfield 40, 3) := by decide +kernel
theorem dX7_debt_74 : decode cX7_debt 74 = .ok (.getfield 215, 3) := by decide +kernel
theorem dX7_debt_77 : decode cX7_debt 77 = .ok (.iload_n 1, 1) := by decide +kernel
theorem dX7_debt_78 : decode cX7_debt 78 = .ok (.iaload, 1) := by decide +kernel
theorem dX7_debt_79 : decode cX7_debt 79 = .ok (.ireturn, 1) := by decide +kernel
theorem dX7_debt_80 : decode cX7_debt 80 = .ok (.aload_n 0, 1) := by decide +kernel
theorem dX7_debt_81 : decode cX7_debt 81 = .ok (.getfield 40, 3) := by decide +kernel
theorem dX7_debt_84 : decode cX7_debt 84 = .ok (.getfield 218, 3) := by decide +kernel
theorem dX7_debt_87 : decode cX7_debt 87 = .ok (.iload_n 1, 1) := by decide +kernel
theorem dX7_debt_88 : decode cX7_debt 88 = .ok (.iaload, 1) := by decide +kernel
theorem dX7_debt_89 : decode cX7_debt 89 = .ok (.ireturn, 1) := by decide +kernel
theorem dX7_debt_90 : decode cX7_debt 90 = .ok (.aload_n 0, 1) := by decide +kernel
theorem dX7_debt_91 : decode cX7_debt 91 = .ok (.getfield 40, 3) := by decide +kernel
theorem dX7_debt_94 : decode cX7_debt 94 = .ok (.iload_n 1, 1) := by decide +kernel
theorem dX7_debt_95 : decode cX7_debt 95 = .ok (.invokevirtual 221, 3) := by decide +kernel
theorem dX7_debt_98 : decode cX7_debt 98 = .ok (.ifCond .eq 7, 3) := by decide +kernel
theorem dX7_debt_101 : decode cX7_debt 101 = .ok (.iconst 1, 1) := by decide +kernel
theorem dX7_debt_102 : decode cX7_debt 102 = .ok (.goto 4, 3) := by decide +kernel
theorem dX7_debt_105 : decode cX7_debt 105 = .ok (.iconst 0, 1) := by decide +kernel
theorem dX7_debt_106 : decode cX7_debt 106 = .ok (.ireturn, 1) := by decide +kernel
theorem dX7_debt_107 : decode cX7_debt 107 = .ok (.aload_n 0, 1) := by decide +kernel
theorem dX7_debt_108 : decode cX7_debt 108 = .ok (.getfield 40, 3) := by decide +kernel
theorem dX7_debt_111 : decode cX7_debt 111 = .ok (.getfield 225, 3) := by decide +kernel
theorem dX7_debt_114 : decode cX7_debt 114 = .ok (.iload_n 1, 1) := by decide +kernel
theorem dX7_debt_115 : decode cX7_debt 115 = .ok (.iaload, 1) := by decide +kernel
theorem dX7_debt_116 : decode cX7_debt 116 = .ok (.ireturn, 1) := by decide +kernel
theorem dX7_debt_117 : decode cX7_debt 117 = .ok (.new 66, 3) := by decide +kernel
theorem dX7_debt_120 : decode cX7_debt 120 = .ok (.dup, 1) := by decide +kernel
theorem dX7_debt_121 : decode cX7_debt 121 = .ok (.ldc 228, 2) := by decide +kernel
theorem dX7_debt_123 : decode cX7_debt 123 = .ok (.invokespecial 70, 3) := by decide +kernel
theorem dX7_debt_126 : decode cX7_debt 126 = .ok (.athrow, 1) := by decide +kernel
set_option maxRecDepth 20000 in
theorem ggX7_late_X3_overdue : GoodIn wsX7_late wsX3_overdue := goodIn_r _ [7, 8, 9, 10, 11, 12, 13, 6, 14, 24, 25, 26, 27, 28] (by decide +kernel) (by decide +kernel)
set_option maxRecDepth 20000 in
theorem gX7_late_X3_overdue : GoodIn wsX7_late (wsV RX7 230 RX3 yX3_overdue wsX3_overdue) := goodIn_app (goodIn_of _ (by decide +kernel)) ggX7_late_X3_overdue
theorem dX7_late_0 : decode cX7_late 0 = .ok (.aload_n 0, 1) := by decide +kernel
theorem dX7_late_1 : decode cX7_late 1 = .ok (.getfield 40, 3) := by decide +kernel
theorem dX7_late_4 : decode cX7_late 4 = .ok (.iload_n 1, 1) := by decide +kernel
theorem dX7_late_5 : decode cX7_late 5 = .ok (.aload_n 0, 1) := by decide +kernel
theorem dX7_late_6 : decode cX7_late 6 = .ok (.getfield 58, 3) := by decide +kernel
theorem dX7_late_9 : decode cX7_late 9 = .ok (.invokevirtual 230, 3) := by decide +kernel
theorem dX7_late_12 : decode cX7_late 12 = .ok (.ireturn, 1) := by decide +kernel
set_option maxRecDepth 20000 in
theorem ggX7_about_X7_checkChief : GoodIn wsX7_about wsX7_checkChief := goodIn_ca (goodIn_r _ [10, 11, 12, 3, 13, 22, 23, 24, 25, 26, 27, 28, 29, 30, 31, 32, 33, 34] (by decide +kernel) (by decide +kernel)) (goodIn_sub (fun _ h => List.mem_cons_of_mem _ (List.mem_append_right _ h)) (by decide +kernel))
set_option maxRecDepth 20000 in
theorem gX7_about_X7_checkChief : GoodIn wsX7_about (wsV RX7 140 RX7 yX7_checkChief wsX7_checkChief) := goodIn_app (goodIn_of _ (by decide +kernel)) ggX7_about_X7_checkChief
set_option maxRecDepth 20000 in
theorem ggX7_about_X0_placeInRank : GoodIn wsX7_about wsX0_placeInRank := goodIn_r _ [18, 19, 20, 21, 31, 32, 33, 34] (by decide +kernel) (by decide +kernel)
set_option maxRecDepth 20000 in
theorem gX7_about_X0_placeInRank : GoodIn wsX7_about (wsV RX7 233 RX0 yX0_placeInRank wsX0_placeInRank) := goodIn_app (goodIn_of _ (by decide +kernel)) ggX7_about_X0_placeInRank
theorem dX7_about_0 : decode cX7_about 0 = .ok (.aload_n 0, 1) := by decide +kernel
theorem dX7_about_1 : decode cX7_about 1 = .ok (.iload_n 1, 1) := by decide +kernel
theorem dX7_about_2 : decode cX7_about 2 = .ok (.invokevirtual 140, 3) := by decide +kernel
theorem dX7_about_5 : decode cX7_about 5 = .ok (.iload_n 2, 1) := by decide +kernel
theorem dX7_about_6 : decode cX7_about 6 = .ok (.tableswitch 63 0 2 #[26, 36, 54], 26) := by decide +kernel
theorem dX7_about_32 : decode cX7_about 32 = .ok (.aload_n 0, 1) := by decide +kernel
theorem dX7_about_33 : decode cX7_about 33 = .ok (.getfield 33, 3) := by decide +kernel
theorem dX7_about_36 : decode cX7_about 36 = .ok (.getfield 119, 3) := by decide +kernel
theorem dX7_about_39 : decode cX7_about 39 = .ok (.iload_n 1, 1) := by decide +kernel
theorem dX7_about_40 : decode cX7_about 40 = .ok (.iaload, 1) := by decide +kernel
theorem dX7_about_41 : decode cX7_about 41 = .ok (.ireturn, 1) := by decide +kernel
theorem dX7_about_42 : decode cX7_about 42 = .ok (.aload_n 0, 1) := by decide +kernel
theorem dX7_about_43 : decode cX7_about 43 = .ok (.getfield 33, 3) := by decide +kernel
theorem dX7_about_46 : decode cX7_about 46 = .ok (.getfield 191, 3) := by decide +kernel
theorem dX7_about_49 : decode cX7_about 49 = .ok (.iload_n 1, 1) := by decide +kernel
theorem dX7_about_50 : decode cX7_about 50 = .ok (.baload, 1) := by decide +kernel
theorem dX7_about_51 : decode cX7_about 51 = .ok (.ifCond .eq 7, 3) := by decide +kernel
theorem dX7_about_54 : decode cX7_about 54 = .ok (.iconst 1, 1) := by decide +kernel
theorem dX7_about_55 : decode cX7_about 55 = .ok (.goto 4, 3) := by decide +kernel
theorem dX7_about_58 : decode cX7_about 58 = .ok (.iconst 0, 1) := by decide +kernel
theorem dX7_about_59 : decode cX7_about 59 = .ok (.ireturn, 1) := by decide +kernel
theorem dX7_about_60 : decode cX7_about 60 = .ok (.aload_n 0, 1) := by decide +kernel
theorem dX7_about_61 : decode cX7_about 61 = .ok (.getfield 33, 3) := by decide +kernel
theorem dX7_about_64 : decode cX7_about 64 = .ok (.iload_n 1, 1) := by decide +kernel
theorem dX7_about_65 : decode cX7_about 65 = .ok (.invokevirtual 233, 3) := by decide +kernel
theorem dX7_about_68 : decode cX7_about 68 = .ok (.ireturn, 1) := by decide +kernel
theorem dX7_about_69 : decode cX7_about 69 = .ok (.new 66, 3) := by decide +kernel
theorem dX7_about_72 : decode cX7_about 72 = .ok (.dup, 1) := by decide +kernel
theorem dX7_about_73 : decode cX7_about 73 = .ok (.ldc 236, 2) := by decide +kernel
theorem dX7_about_75 : decode cX7_about 75 = .ok (.invokespecial 70, 3) := by decide +kernel
theorem dX7_about_78 : decode cX7_about 78 = .ok (.athrow, 1) := by decide +kernel
set_option maxRecDepth 20000 in
theorem ggX7_fame_X7_checkChief : GoodIn wsX7_fame wsX7_checkChief := goodIn_ca (goodIn_r _ [7, 8, 9, 1, 10, 11, 12, 13, 14, 15, 16, 17, 18, 19, 20, 21, 22, 23] (by decide +kernel) (by decide +kernel)) (goodIn_sub (fun _ h => List.mem_cons_of_mem _ (List.mem_append_right _ h)) (by decide +kernel))
set_option maxRecDepth 20000 in
theorem gX7_fame_X7_checkChief : GoodIn wsX7_fame (wsV RX7 140 RX7 yX7_checkChief wsX7_checkChief) := goodIn_app (goodIn_of _ (by decide +kernel)) ggX7_fame_X7_checkChief
theorem dX7_fame_0 : decode cX7_fame 0 = .ok (.aload_n 0, 1) := by decide +kernel
theorem dX7_fame_1 : decode cX7_fame 1 = .ok (.iload_n 1, 1) := by decide +kernel
theorem dX7_fame_2 : decode cX7_fame 2 = .ok (.invokevirtual 140, 3) := by decide +kernel
theorem dX7_fame_5 : decode cX7_fame 5 = .ok (.aload_n 0, 1) := by decide +kernel
theorem dX7_fame_6 : decode cX7_fame 6 = .ok (.getfield 33, 3) := by decide +kernel
theorem dX7_fame_9 : decode cX7_fame 9 = .ok (.getfield 238, 3) := by decide +kernel
theorem dX7_fame_12 : decode cX7_fame 12 = .ok (.iload_n 1, 1) := by decide +kernel
theorem dX7_fame_13 : decode cX7_fame 13 = .ok (.laload, 1) := by decide +kernel
theorem dX7_fame_14 : decode cX7_fame 14 = .ok (.lreturn, 1) := by decide +kernel
set_option maxRecDepth 20000 in
theorem ggX7_gather_X7_checkChief : GoodIn wsX7_gather wsX7_checkChief := goodIn_ca (goodIn_r _ [10, 11, 12, 1, 13, 52, 53, 54, 55, 56, 57, 58, 59, 60, 61, 62, 63, 64] (by decide +kernel) (by decide +kernel)) (goodIn_sub (fun _ h => List.mem_cons_of_mem _ (List.mem_append_right _ h)) (by decide +kernel))
set_option maxRecDepth 20000 in
theorem gX7_gather_X7_checkChief : GoodIn wsX7_gather (wsV RX7 140 RX7 yX7_checkChief wsX7_checkChief) := goodIn_app (goodIn_of _ (by decide +kernel)) ggX7_gather_X7_checkChief
set_option maxRecDepth 20000 in
theorem ggX7_gather_X4_callIn : GoodIn wsX7_gather wsX4_callIn := goodIn_r _ [18, 19, 20, 21, 22, 23, 24, 25, 26, 27, 28, 29, 30, 31, 32, 65, 66, 67, 68, 69, 61, 62, 63, 64, 70, 71, 72, 73, 74] (by decide +kernel) (by decide +kernel)
set_option maxRecDepth 20000 in
theorem gX7_gather_X4_callIn : GoodIn wsX7_gather (wsV RX7 244 RX4 yX4_callIn wsX4_callIn) := goodIn_app (goodIn_of _ (by decide +kernel)) ggX7_gather_X4_callIn
set_option maxRecDepth 20000 in
theorem ggX7_gather_X4_most : GoodIn wsX7_gather wsX4_most := goodIn_r _ [36, 19, 37, 38, 39, 17, 40, 41, 42, 21, 43, 44, 45, 46, 47, 48, 49, 50, 51, 65, 66, 67, 68, 69] (by decide +kernel) (by decide +kernel)
set_option maxRecDepth 20000 in
theorem gX7_gather_X4_most : GoodIn wsX7_gather (wsV RX7 248 RX4 yX4_most wsX4_most) := goodIn_app (goodIn_of _ (by decide +kernel)) ggX7_gather_X4_most
theorem dX7_gather_0 : decode cX7_gather 0 = .ok (.aload_n 0, 1) := by decide +kernel
theorem dX7_gather_1 : decode cX7_gather 1 = .ok (.iload_n 1, 1) := by decide +kernel
theorem dX7_gather_2 : decode cX7_gather 2 = .ok (.invokevirtual 140, 3) := by decide +kernel
theorem dX7_gather_5 : decode cX7_gather 5 = .ok (.aload_n 0, 1) := by decide +kernel
theorem dX7_gather_6 : decode cX7_gather 6 = .ok (.getfield 33, 3) := by decide +kernel
theorem dX7_gather_9 : decode cX7_gather 9 = .ok (.getfield 191, 3) := by decide +kernel
theorem dX7_gather_12 : decode cX7_gather 12 = .ok (.iload_n 1, 1) := by decide +kernel
theorem dX7_gather_13 : decode cX7_gather 13 = .ok (.baload, 1) := by decide +kernel
theorem dX7_gather_14 : decode cX7_gather 14 = .ok (.ifCond .ne 7, 3) := by decide +kernel
theorem dX7_gather_17 : decode cX7_gather 17 = .ok (.ldc2_w 242, 3) := by decide +kernel
theorem dX7_gather_20 : decode cX7_gather 20 = .ok (.lreturn, 1) := by decide +kernel
theorem dX7_gather_21 : decode cX7_gather 21 = .ok (.aload_n 0, 1) := by decide +kernel
theorem dX7_gather_22 : decode cX7_gather 22 = .ok (.getfield 54, 3) := by decide +kernel
theorem dX7_gather_25 : decode cX7_gather 25 = .ok (.aload_n 0, 1) := by decide +kernel
theorem dX7_gather_26 : decode cX7_gather 26 = .ok (.getfield 33, 3) := by decide +kernel
theorem dX7_gather_29 : decode cX7_gather 29 = .ok (.aload_n 0, 1) := by decide +kernel
theorem dX7_gather_30 : decode cX7_gather 30 = .ok (.getfield 40, 3) := by decide +kernel
theorem dX7_gather_33 : decode cX7_gather 33 = .ok (.iload_n 2, 1) := by decide +kernel
theorem dX7_gather_34 : decode cX7_gather 34 = .ok (.invokevirtual 244, 3) := by decide +kernel
theorem dX7_gather_37 : decode cX7_gather 37 = .ok (.aload_n 0, 1) := by decide +kernel
theorem dX7_gather_38 : decode cX7_gather 38 = .ok (.getfield 54, 3) := by decide +kernel
theorem dX7_gather_41 : decode cX7_gather 41 = .ok (.iload_n 1, 1) := by decide +kernel
theorem dX7_gather_42 : decode cX7_gather 42 = .ok (.invokevirtual 248, 3) := by decide +kernel
theorem dX7_gather_45 : decode cX7_gather 45 = .ok (.lreturn, 1) := by decide +kernel
set_option maxRecDepth 20000 in
theorem ggX7_hold_X7_checkChief : GoodIn wsX7_hold wsX7_checkChief := goodIn_ca (goodIn_r _ [9, 10, 11, 1, 12, 55, 56, 57, 58, 59, 60, 61, 62, 63, 64, 65, 66, 67] (by decide +kernel) (by decide +kernel)) (goodIn_sub (fun _ h => List.mem_cons_of_mem _ (List.mem_append_right _ h)) (by decide +kernel))
set_option maxRecDepth 20000 in
theorem gX7_hold_X7_checkChief : GoodIn wsX7_hold (wsV RX7 140 RX7 yX7_checkChief wsX7_checkChief) := goodIn_app (goodIn_of _ (by decide +kernel)) ggX7_hold_X7_checkChief
set_option maxRecDepth 20000 in
theorem ggX7_hold_X4_callIn : GoodIn wsX7_hold wsX4_callIn := goodIn_r _ [17, 18, 19, 20, 21, 22, 23, 24, 25, 26, 27, 28, 29, 30, 31, 68, 69, 70, 71, 72, 64, 65, 66, 67, 73, 74, 75, 76, 77] (by decide +kernel) (by decide +kernel)
set_option maxRecDepth 20000 in
theorem gX7_hold_X4_callIn : GoodIn wsX7_hold (wsV RX7 244 RX4 yX4_callIn wsX4_callIn) := goodIn_app (goodIn_of _ (by decide +kernel)) ggX7_hold_X4_callIn
set_option maxRecDepth 20000 in
theorem ggX7_hold_X4_most : GoodIn wsX7_hold wsX4_most := goodIn_r _ [35, 18, 36, 37, 38, 16, 39, 40, 41, 20, 42, 43, 44, 45, 46, 47, 48, 49, 50, 68, 69, 70, 71, 72] (by decide +kernel) (by decide +kernel)
set_option maxRecDepth 20000 in
theorem gX7_hold_X4_most : GoodIn wsX7_hold (wsV RX7 248 RX4 yX4_most wsX4_most) := goodIn_app (goodIn_of _ (by decide +kernel)) ggX7_hold_X4_most
set_option maxRecDepth 20000 in
theorem ggX7_hold_X4_side : GoodIn wsX7_hold wsX4_side := goodIn_r _ [54, 40, 68, 69, 70, 71, 72] (by decide +kernel) (by decide +kernel)
set_option maxRecDepth 20000 in
theorem gX7_hold_X4_side : GoodIn wsX7_hold (wsV RX7 252 RX4 yX4_side wsX4_side) := goodIn_app (goodIn_of _ (by decide +kernel)) ggX7_hold_X4_side
theorem dX7_hold_0 : decode cX7_hold 0 = .ok (.aload_n 0, 1) := by decide +kernel
theorem dX7_hold_1 : decode cX7_hold 1 = .ok (.iload_n 1, 1) := by decide +kernel
theorem dX7_hold_2 : decode cX7_hold 2 = .ok (.invokevirtual 140, 3) := by decide +kernel
theorem dX7_hold_5 : decode cX7_hold 5 = .ok (.aload_n 0, 1) := by decide +kernel
theorem dX7_hold_6 : decode cX7_hold 6 = .ok (.getfield 33, 3) := by decide +kernel
theorem dX7_hold_9 : decode cX7_hold 9 = .ok (.getfield 191, 3) := by decide +kernel
theorem dX7_hold_12 : decode cX7_hold 12 = .ok (.iload_n 1, 1) := by decide +kernel
theorem dX7_hold_13 : decode cX7_hold 13 = .ok (.baload, 1) := by decide +kernel
theorem dX7_hold_14 : decode cX7_hold 14 = .ok (.ifCond .ne 5, 3) := by decide +kernel
theorem dX7_hold_17 : decode cX7_hold 17 = .ok (.iconst (-1), 1) := by decide +kernel
theorem dX7_hold_18 : decode cX7_hold 18 = .ok (.ireturn, 1) := by decide +kernel
theorem dX7_hold_19 : decode cX7_hold 19 = .ok (.aload_n 0, 1) := by decide +kernel
theorem dX7_hold_20 : decode cX7_hold 20 = .ok (.getfield 54, 3) := by decide +kernel
theorem dX7_hold_23 : decode cX7_hold 23 = .ok (.aload_n 0, 1) := by decide +kernel
theorem dX7_hold_24 : decode cX7_hold 24 = .ok (.getfield 33, 3) := by decide +kernel
theorem dX7_hold_27 : decode cX7_hold 27 = .ok (.aload_n 0, 1) := by decide +kernel
theorem dX7_hold_28 : decode cX7_hold 28 = .ok (.getfield 40, 3) := by decide +kernel
theorem dX7_hold_31 : decode cX7_hold 31 = .ok (.iload_n 2, 1) := by decide +kernel
theorem dX7_hold_32 : decode cX7_hold 32 = .ok (.invokevirtual 244, 3) := by decide +kernel
theorem dX7_hold_35 : decode cX7_hold 35 = .ok (.aload_n 0, 1) := by decide +kernel
theorem dX7_hold_36 : decode cX7_hold 36 = .ok (.getfield 54, 3) := by decide +kernel
theorem dX7_hold_39 : decode cX7_hold 39 = .ok (.iload_n 1, 1) := by decide +kernel
theorem dX7_hold_40 : decode cX7_hold 40 = .ok (.invokevirtual 248, 3) := by decide +kernel
theorem dX7_hold_43 : decode cX7_hold 43 = .ok (.pop2, 1) := by decide +kernel
theorem dX7_hold_44 : decode cX7_hold 44 = .ok (.aload_n 0, 1) := by decide +kernel
theorem dX7_hold_45 : decode cX7_hold 45 = .ok (.getfield 54, 3) := by decide +kernel
theorem dX7_hold_48 : decode cX7_hold 48 = .ok (.invokevirtual 252, 3) := by decide +kernel
theorem dX7_hold_51 : decode cX7_hold 51 = .ok (.ireturn, 1) := by decide +kernel
set_option maxRecDepth 20000 in
theorem ggX7_count_X3_open : GoodIn wsX7_count wsX3_open := goodIn_r _ [16, 17, 18, 40, 41, 42, 43, 44] (by decide +kernel) (by decide +kernel)
set_option maxRecDepth 20000 in
theorem gX7_count_X3_open : GoodIn wsX7_count (wsV RX7 255 RX3 yX3_open wsX3_open) := goodIn_app (goodIn_of _ (by decide +kernel)) ggX7_count_X3_open
theorem dX7_count_0 : decode cX7_count 0 = .ok (.iload_n 1, 1) := by decide +kernel
theorem dX7_count_1 : decode cX7_count 1 = .ok (.tableswitch 96 0 6 #[43, 51, 59, 67, 75, 83, 88], 43) := by decide +kernel
theorem dX7_count_44 : decode cX7_count 44 = .ok (.aload_n 0, 1) := by decide +kernel
theorem dX7_count_45 : decode cX7_count 45 = .ok (.getfield 33, 3) := by decide +kernel
theorem dX7_count_48 : decode cX7_count 48 = .ok (.getfield 73, 3) := by decide +kernel
theorem dX7_count_51 : decode cX7_count 51 = .ok (.ireturn, 1) := by decide +kernel
theorem dX7_count_52 : decode cX7_count 52 = .ok (.aload_n 0, 1) := by decide +kernel
theorem dX7_count_53 : decode cX7_count 53 = .ok (.getfield 26, 3) := by decide +kernel
theorem dX7_count_56 : decode cX7_count 56 = .ok (.getfield 94, 3) := by decide +kernel
theorem dX7_count_59 : decode cX7_count 59 = .ok (.ireturn, 1) := by decide +kernel
theorem dX7_count_60 : decode cX7_count 60 = .ok (.aload_n 0, 1) := by decide +kernel
theorem dX7_count_61 : decode cX7_count 61 = .ok (.getfield 40, 3) := by decide +kernel
theorem dX7_count_64 : decode cX7_count 64 = .ok (.getfield 206, 3) := by decide +kernel
theorem dX7_count_67 : decode cX7_count 67 = .ok (.ireturn, 1) := by decide +kernel
theorem dX7_count_68 : decode cX7_count 68 = .ok (.aload_n 0, 1) := by decide +kernel
theorem dX7_count_69 : decode cX7_count 69 = .ok (.getfield 40, 3) := by decide +kernel
theorem dX7_count_72 : decode cX7_count 72 = .ok (.invokevirtual 255, 3) := by decide +kernel
theorem dX7_count_75 : decode cX7_count 75 = .ok (.ireturn, 1) := by decide +kernel
theorem dX7_count_76 : decode cX7_count 76 = .ok (.aload_n 0, 1) := by decide +kernel
theorem dX7_count_77 : decode cX7_count 77 = .ok (.getfield 47, 3) := by decide +kernel
theorem dX7_count_80 : decode cX7_count 80 = .ok (.getfield 148, 3) := by decide +kernel
theorem dX7_count_83 : decode cX7_count 83 = .ok (.ireturn, 1) := by decide +kernel
theorem dX7_count_84 : decode cX7_count 84 = .ok (.aload_n 0, 1) := by decide +kernel
theorem dX7_count_85 : decode cX7_count 85 = .ok (.getfield 58, 3) := by decide +kernel
theorem dX7_count_88 : decode cX7_count 88 = .ok (.ireturn, 1) := by decide +kernel
theorem dX7_count_89 : decode cX7_count 89 = .ok (.aload_n 0, 1) := by decide +kernel
theorem dX7_count_90 : decode cX7_count 90 = .ok (.getfield 10, 3) := by decide +kernel
theorem dX7_count_93 : decode cX7_count 93 = .ok (.getfield 85, 3) := by decide +kernel
theorem dX7_count_96 : decode cX7_count 96 = .ok (.ireturn, 1) := by decide +kernel
theorem dX7_count_97 : decode cX7_count 97 = .ok (.iconst (-1), 1) := by decide +kernel
theorem dX7_count_98 : decode cX7_count 98 = .ok (.ireturn, 1) := by decide +kernel
theorem dX7_isIn_0 : decode cX7_isIn 0 = .ok (.iload_n 0, 1) := by decide +kernel
theorem dX7_isIn_1 : decode cX7_isIn 1 = .ok (.iload_n 1, 1) := by decide +kernel
theorem dX7_isIn_2 : decode cX7_isIn 2 = .ok (.ishr, 1) := by decide +kernel
theorem dX7_isIn_3 : decode cX7_isIn 3 = .ok (.iconst 1, 1) := by decide +kernel
theorem dX7_isIn_4 : decode cX7_isIn 4 = .ok (.iand, 1) := by decide +kernel
theorem dX7_isIn_5 : decode cX7_isIn 5 = .ok (.iconst 1, 1) := by decide +kernel
theorem dX7_isIn_6 : decode cX7_isIn 6 = .ok (.if_icmp .ne 7, 3) := by decide +kernel
theorem dX7_isIn_9 : decode cX7_isIn 9 = .ok (.iconst 1, 1) := by decide +kernel
theorem dX7_isIn_10 : decode cX7_isIn 10 = .ok (.goto 4, 3) := by decide +kernel
theorem dX7_isIn_13 : decode cX7_isIn 13 = .ok (.iconst 0, 1) := by decide +kernel
theorem dX7_isIn_14 : decode cX7_isIn 14 = .ok (.ireturn, 1) := by decide +kernel
theorem dX7_checkChief_0 : decode cX7_checkChief 0 = .ok (.iload_n 1, 1) := by decide +kernel
theorem dX7_checkChief_1 : decode cX7_checkChief 1 = .ok (.ifCond .lt 14, 3) := by decide +kernel
theorem dX7_checkChief_4 : decode cX7_checkChief 4 = .ok (.iload_n 1, 1) := by decide +kernel
theorem dX7_checkChief_5 : decode cX7_checkChief 5 = .ok (.aload_n 0, 1) := by decide +kernel
theorem dX7_checkChief_6 : decode cX7_checkChief 6 = .ok (.getfield 33, 3) := by decide +kernel
theorem dX7_checkChief_9 : decode cX7_checkChief 9 = .ok (.getfield 73, 3) := by decide +kernel
theorem dX7_checkChief_12 : decode cX7_checkChief 12 = .ok (.if_icmp .lt 14, 3) := by decide +kernel
theorem dX7_checkChief_15 : decode cX7_checkChief 15 = .ok (.new 207, 3) := by decide +kernel
theorem dX7_checkChief_18 : decode cX7_checkChief 18 = .ok (.dup, 1) := by decide +kernel
theorem dX7_checkChief_19 : decode cX7_checkChief 19 = .ok (.ldc_w 258, 3) := by decide +kernel
theorem dX7_checkChief_22 : decode cX7_checkChief 22 = .ok (.invokespecial 211, 3) := by decide +kernel
theorem dX7_checkChief_25 : decode cX7_checkChief 25 = .ok (.athrow, 1) := by decide +kernel
theorem dX7_checkChief_26 : decode cX7_checkChief 26 = .ok (.return_, 1) := by decide +kernel
theorem dX7_checkLives_0 : decode cX7_checkLives 0 = .ok (.aload_n 0, 1) := by decide +kernel
theorem dX7_checkLives_1 : decode cX7_checkLives 1 = .ok (.getfield 33, 3) := by decide +kernel
theorem dX7_checkLives_4 : decode cX7_checkLives 4 = .ok (.getfield 191, 3) := by decide +kernel
theorem dX7_checkLives_7 : decode cX7_checkLives 7 = .ok (.iload_n 1, 1) := by decide +kernel
theorem dX7_checkLives_8 : decode cX7_checkLives 8 = .ok (.baload, 1) := by decide +kernel
theorem dX7_checkLives_9 : decode cX7_checkLives 9 = .ok (.ifCond .ne 14, 3) := by decide +kernel
theorem dX7_checkLives_12 : decode cX7_checkLives 12 = .ok (.new 76, 3) := by decide +kernel
theorem dX7_checkLives_15 : decode cX7_checkLives 15 = .ok (.dup, 1) := by decide +kernel
theorem dX7_checkLives_16 : decode cX7_checkLives 16 = .ok (.ldc_w 260, 3) := by decide +kernel
theorem dX7_checkLives_19 : decode cX7_checkLives 19 = .ok (.invokespecial 80, 3) := by decide +kernel
theorem dX7_checkLives_22 : decode cX7_checkLives 22 = .ok (.athrow, 1) := by decide +kernel
theorem dX7_checkLives_23 : decode cX7_checkLives 23 = .ok (.return_, 1) := by decide +kernel
theorem dX7_checkCopper_0 : decode cX7_checkCopper 0 = .ok (.iload_n 1, 1) := by decide +kernel
theorem dX7_checkCopper_1 : decode cX7_checkCopper 1 = .ok (.ifCond .lt 14, 3) := by decide +kernel
theorem dX7_checkCopper_4 : decode cX7_checkCopper 4 = .ok (.iload_n 1, 1) := by decide +kernel
theorem dX7_checkCopper_5 : decode cX7_checkCopper 5 = .ok (.aload_n 0, 1) := by decide +kernel
theorem dX7_checkCopper_6 : decode cX7_checkCopper 6 = .ok (.getfield 47, 3) := by decide +kernel
theorem dX7_checkCopper_9 : decode cX7_checkCopper 9 = .ok (.getfield 148, 3) := by decide +kernel
theorem dX7_checkCopper_12 : decode cX7_checkCopper 12 = .ok (.if_icmp .lt 14, 3) := by decide +kernel
theorem dX7_checkCopper_15 : decode cX7_checkCopper 15 = .ok (.new 207, 3) := by decide +kernel
theorem dX7_checkCopper_18 : decode cX7_checkCopper 18 = .ok (.dup, 1) := by decide +kernel
theorem dX7_checkCopper_19 : decode cX7_checkCopper 19 = .ok (.ldc_w 262, 3) := by decide +kernel
theorem dX7_checkCopper_22 : decode cX7_checkCopper 22 = .ok (.invokespecial 211, 3) := by decide +kernel
theorem dX7_checkCopper_25 : decode cX7_checkCopper 25 = .ok (.athrow, 1) := by decide +kernel
theorem dX7_checkCopper_26 : decode cX7_checkCopper 26 = .ok (.return_, 1) := by decide +kernel
set_option maxRecDepth 20000 in
theorem ggX7_checkHandingOver_X7_checkChief : GoodIn wsX7_checkHandingOver wsX7_checkChief := goodIn_ca (goodIn_r _ [7, 8, 9, 10, 11, 19, 20, 21, 22, 23, 24, 25, 26, 27, 28, 29, 30, 31] (by decide +kernel) (by decide +kernel)) (goodIn_sub (fun _ h => List.mem_cons_of_mem _ (List.mem_append_left _ (List.mem_append_right _ h))) (by decide +kernel))
set_option maxRecDepth 20000 in
theorem gX7_checkHandingOver_X7_checkChief : GoodIn wsX7_checkHandingOver (wsV RX7 140 RX7 yX7_checkChief wsX7_checkChief) := goodIn_app (goodIn_of _ (by decide +kernel)) ggX7_checkHandingOver_X7_checkChief
set_option maxRecDepth 20000 in
theorem ggX7_checkHandingOver_X7_checkLives : GoodIn wsX7_checkHandingOver wsX7_checkLives := goodIn_ca (goodIn_r _ [15, 16, 17, 10, 18, 19, 20, 21, 22, 23, 24, 25, 26, 27, 28, 29, 30, 31] (by decide +kernel) (by decide +kernel)) (goodIn_sub (fun _ h => List.mem_cons_of_mem _ (List.mem_append_right _ h)) (by decide +kernel))
set_option maxRecDepth 20000 in
theorem gX7_checkHandingOver_X7_checkLives : GoodIn wsX7_checkHandingOver (wsV RX7 145 RX7 yX7_checkLives wsX7_checkLives) := goodIn_app (goodIn_of _ (by decide +kernel)) ggX7_checkHandingOver_X7_checkLives
theorem dX7_checkHandingOver_0 : decode cX7_checkHandingOver 0 = .ok (.aload_n 0, 1) := by decide +kernel
theorem dX7_checkHandingOver_1 : decode cX7_checkHandingOver 1 = .ok (.iload_n 1, 1) := by decide +kernel
theorem dX7_checkHandingOver_2 : decode cX7_checkHandingOver 2 = .ok (.invokevirtual 140, 3) := by decide +kernel
theorem dX7_checkHandingOver_5 : decode cX7_checkHandingOver 5 = .ok (.aload_n 0, 1) := by decide +kernel
theorem dX7_checkHandingOver_6 : decode cX7_checkHandingOver 6 = .ok (.iload_n 2, 1) := by decide +kernel
theorem dX7_checkHandingOver_7 : decode cX7_checkHandingOver 7 = .ok (.invokevirtual 140, 3) := by decide +kernel
theorem dX7_checkHandingOver_10 : decode cX7_checkHandingOver 10 = .ok (.iload_n 1, 1) := by decide +kernel
theorem dX7_checkHandingOver_11 : decode cX7_checkHandingOver 11 = .ok (.iload_n 2, 1) := by decide +kernel
theorem dX7_checkHandingOver_12 : decode cX7_checkHandingOver 12 = .ok (.if_icmp .eq 8, 3) := by decide +kernel
theorem dX7_checkHandingOver_15 : decode cX7_checkHandingOver 15 = .ok (.iload_n 3, 1) := by decide +kernel
theorem dX7_checkHandingOver_16 : decode cX7_checkHandingOver 16 = .ok (.iconst 1, 1) := by decide +kernel
theorem dX7_checkHandingOver_17 : decode cX7_checkHandingOver 17 = .ok (.if_icmp .ge 14, 3) := by decide +kernel
theorem dX7_checkHandingOver_20 : decode cX7_checkHandingOver 20 = .ok (.new 66, 3) := by decide +kernel
theorem dX7_checkHandingOver_23 : decode cX7_checkHandingOver 23 = .ok (.dup, 1) := by decide +kernel
theorem dX7_checkHandingOver_24 : decode cX7_checkHandingOver 24 = .ok (.ldc_w 264, 3) := by decide +kernel
theorem dX7_checkHandingOver_27 : decode cX7_checkHandingOver 27 = .ok (.invokespecial 70, 3) := by decide +kernel
theorem dX7_checkHandingOver_30 : decode cX7_checkHandingOver 30 = .ok (.athrow, 1) := by decide +kernel
theorem dX7_checkHandingOver_31 : decode cX7_checkHandingOver 31 = .ok (.aload_n 0, 1) := by decide +kernel
theorem dX7_checkHandingOver_32 : decode cX7_checkHandingOver 32 = .ok (.iload_n 1, 1) := by decide +kernel
theorem dX7_checkHandingOver_33 : decode cX7_checkHandingOver 33 = .ok (.invokevirtual 145, 3) := by decide +kernel
theorem dX7_checkHandingOver_36 : decode cX7_checkHandingOver 36 = .ok (.aload_n 0, 1) := by decide +kernel
theorem dX7_checkHandingOver_37 : decode cX7_checkHandingOver 37 = .ok (.iload_n 2, 1) := by decide +kernel
theorem dX7_checkHandingOver_38 : decode cX7_checkHandingOver 38 = .ok (.invokevirtual 145, 3) := by decide +kernel
theorem dX7_checkHandingOver_41 : decode cX7_checkHandingOver 41 = .ok (.return_, 1) := by decide +kernel
set_option maxRecDepth 20000 in
theorem ggX7_checkFeast_X7_checkChief : GoodIn wsX7_checkFeast wsX7_checkChief := goodIn_ca (goodIn_r _ [10, 11, 12, 3, 4, 23, 24, 25, 26, 27, 28, 29, 30, 31, 32, 33, 34, 35] (by decide +kernel) (by decide +kernel)) (goodIn_sub (fun _ h => List.mem_cons_of_mem _ (List.mem_append_left _ (List.mem_append_right _ h))) (by decide +kernel))
set_option maxRecDepth 20000 in
theorem gX7_checkFeast_X7_checkChief : GoodIn wsX7_checkFeast (wsV RX7 140 RX7 yX7_checkChief wsX7_checkChief) := goodIn_app (goodIn_of _ (by decide +kernel)) ggX7_checkFeast_X7_checkChief
set_option maxRecDepth 20000 in
theorem ggX7_checkFeast_X7_isIn : GoodIn wsX7_checkFeast wsX7_isIn := goodIn_r _ [15] (by decide +kernel) (by decide +kernel)
set_option maxRecDepth 20000 in
theorem gX7_checkFeast_X7_isIn : GoodIn wsX7_checkFeast (va_wsS RX7 185 yX7_isIn wsX7_isIn) := goodIn_app (goodIn_of _ (by decide +kernel)) ggX7_checkFeast_X7_isIn
set_option maxRecDepth 20000 in
theorem ggX7_checkFeast_X7_checkLives : GoodIn wsX7_checkFeast wsX7_checkLives := goodIn_ca (goodIn_r _ [19, 20, 21, 3, 22, 23, 24, 25, 26, 27, 28, 29, 30, 31, 32, 33, 34, 35] (by decide +kernel) (by decide +kernel)) (goodIn_sub (fun _ h => List.mem_cons_of_mem _ (List.mem_append_right _ h)) (by decide +kernel))
set_option maxRecDepth 20000 in
theorem gX7_checkFeast_X7_checkLives : GoodIn wsX7_checkFeast (wsV RX7 145 RX7 yX7_checkLives wsX7_checkLives) := goodIn_app (goodIn_of _ (by decide +kernel)) ggX7_checkFeast_X7_checkLives
theorem dX7_checkFeast_0 : decode cX7_checkFeast 0 = .ok (.aload_n 0, 1) := by decide +kernel
theorem dX7_checkFeast_1 : decode cX7_checkFeast 1 = .ok (.iload_n 1, 1) := by decide +kernel
theorem dX7_checkFeast_2 : decode cX7_checkFeast 2 = .ok (.invokevirtual 140, 3) := by decide +kernel
theorem dX7_checkFeast_5 : decode cX7_checkFeast 5 = .ok (.iload_n 2, 1) := by decide +kernel
theorem dX7_checkFeast_6 : decode cX7_checkFeast 6 = .ok (.iload 4, 2) := by decide +kernel
theorem dX7_checkFeast_8 : decode cX7_checkFeast 8 = .ok (.ior, 1) := by decide +kernel
theorem dX7_checkFeast_9 : decode cX7_checkFeast 9 = .ok (.istore 5, 2) := by decide +kernel
theorem dX7_checkFeast_11 : decode cX7_checkFeast 11 = .ok (.iload 5, 2) := by decide +kernel
theorem dX7_checkFeast_13 : decode cX7_checkFeast 13 = .ok (.aload_n 0, 1) := by decide +kernel
theorem dX7_checkFeast_14 : decode cX7_checkFeast 14 = .ok (.getfield 33, 3) := by decide +kernel
theorem dX7_checkFeast_17 : decode cX7_checkFeast 17 = .ok (.getfield 73, 3) := by decide +kernel
theorem dX7_checkFeast_20 : decode cX7_checkFeast 20 = .ok (.ishr, 1) := by decide +kernel
theorem dX7_checkFeast_21 : decode cX7_checkFeast 21 = .ok (.ifCond .ne 19, 3) := by decide +kernel
theorem dX7_checkFeast_24 : decode cX7_checkFeast 24 = .ok (.iload 5, 2) := by decide +kernel
theorem dX7_checkFeast_26 : decode cX7_checkFeast 26 = .ok (.iload_n 1, 1) := by decide +kernel
theorem dX7_checkFeast_27 : decode cX7_checkFeast 27 = .ok (.invokestatic 185, 3) := by decide +kernel
theorem dX7_checkFeast_30 : decode cX7_checkFeast 30 = .ok (.ifCond .ne 10, 3) := by decide +kernel
theorem dX7_checkFeast_33 : decode cX7_checkFeast 33 = .ok (.iload_n 2, 1) := by decide +kernel
theorem dX7_checkFeast_34 : decode cX7_checkFeast 34 = .ok (.iload 4, 2) := by decide +kernel
theorem dX7_checkFeast_36 : decode cX7_checkFeast 36 = .ok (.iand, 1) := by decide +kernel
theorem dX7_checkFeast_37 : decode cX7_checkFeast 37 = .ok (.ifCond .eq 14, 3) := by decide +kernel
theorem dX7_checkFeast_40 : decode cX7_checkFeast 40 = .ok (.new 66, 3) := by decide +kernel
theorem dX7_checkFeast_43 : decode cX7_checkFeast 43 = .ok (.dup, 1) := by decide +kernel
theorem dX7_checkFeast_44 : decode cX7_checkFeast 44 = .ok (.ldc_w 266, 3) := by decide +kernel
theorem dX7_checkFeast_47 : decode cX7_checkFeast 47 = .ok (.invokespecial 70, 3) := by decide +kernel
theorem dX7_checkFeast_50 : decode cX7_checkFeast 50 = .ok (.athrow, 1) := by decide +kernel
theorem dX7_checkFeast_51 : decode cX7_checkFeast 51 = .ok (.iload_n 3, 1) := by decide +kernel
theorem dX7_checkFeast_52 : decode cX7_checkFeast 52 = .ok (.iconst 1, 1) := by decide +kernel
theorem dX7_checkFeast_53 : decode cX7_checkFeast 53 = .ok (.if_icmp .lt 10, 3) := by decide +kernel
theorem dX7_checkFeast_56 : decode cX7_checkFeast 56 = .ok (.iload_n 3, 1) := by decide +kernel
theorem dX7_checkFeast_57 : decode cX7_checkFeast 57 = .ok (.ldc_w 268, 3) := by decide +kernel
theorem dX7_checkFeast_60 : decode cX7_checkFeast 60 = .ok (.if_icmp .le 14, 3) := by decide +kernel
theorem dX7_checkFeast_63 : decode cX7_checkFeast 63 = .ok (.new 66, 3) := by decide +kernel
theorem dX7_checkFeast_66 : decode cX7_checkFeast 66 = .ok (.dup, 1) := by decide +kernel
theorem dX7_checkFeast_67 : decode cX7_checkFeast 67 = .ok (.ldc_w 269, 3) := by decide +kernel
theorem dX7_checkFeast_70 : decode cX7_checkFeast 70 = .ok (.invokespecial 70, 3) := by decide +kernel
theorem dX7_checkFeast_73 : decode cX7_checkFeast 73 = .ok (.athrow, 1) := by decide +kernel
theorem dX7_checkFeast_74 : decode cX7_checkFeast 74 = .ok (.aload_n 0, 1) := by decide +kernel
theorem dX7_checkFeast_75 : decode cX7_checkFeast 75 = .ok (.iload_n 1, 1) := by decide +kernel
theorem dX7_checkFeast_76 : decode cX7_checkFeast 76 = .ok (.invokevirtual 145, 3) := by decide +kernel
theorem dX7_checkFeast_79 : decode cX7_checkFeast 79 = .ok (.iconst 0, 1) := by decide +kernel
theorem dX7_checkFeast_80 : decode cX7_checkFeast 80 = .ok (.istore 6, 2) := by decide +kernel
theorem dX7_checkFeast_82 : decode cX7_checkFeast 82 = .ok (.iload 6, 2) := by decide +kernel
theorem dX7_checkFeast_84 : decode cX7_checkFeast 84 = .ok (.aload_n 0, 1) := by decide +kernel
theorem dX7_checkFeast_85 : decode cX7_checkFeast 85 = .ok (.getfield 33, 3) := by decide +kernel
theorem dX7_checkFeast_88 : decode cX7_checkFeast 88 = .ok (.getfield 73, 3) := by decide +kernel
theorem dX7_checkFeast_91 : decode cX7_checkFeast 91 = .ok (.if_icmp .ge 25, 3) := by decide +kernel
theorem dX7_checkFeast_94 : decode cX7_checkFeast 94 = .ok (.iload 5, 2) := by decide +kernel
theorem dX7_checkFeast_96 : decode cX7_checkFeast 96 = .ok (.iload 6, 2) := by decide +kernel
theorem dX7_checkFeast_98 : decode cX7_checkFeast 98 = .ok (.invokestatic 185, 3) := by decide +kernel
theorem dX7_checkFeast_101 : decode cX7_checkFeast 101 = .ok (.ifCond .eq 9, 3) := by decide +kernel
theorem dX7_checkFeast_104 : decode cX7_checkFeast 104 = .ok (.aload_n 0, 1) := by decide +kernel
theorem dX7_checkFeast_105 : decode cX7_checkFeast 105 = .ok (.iload 6, 2) := by decide +kernel
theorem dX7_checkFeast_107 : decode cX7_checkFeast 107 = .ok (.invokevirtual 145, 3) := by decide +kernel
theorem dX7_checkFeast_110 : decode cX7_checkFeast 110 = .ok (.iinc 6 1, 3) := by decide +kernel
theorem dX7_checkFeast_113 : decode cX7_checkFeast 113 = .ok (.goto (-31), 3) := by decide +kernel
theorem dX7_checkFeast_116 : decode cX7_checkFeast 116 = .ok (.return_, 1) := by decide +kernel
set_option maxRecDepth 20000 in
theorem ggX7_debtsMadeBy_X3_owed : GoodIn wsX7_debtsMadeBy wsX3_owed := goodIn_r _ [12, 13, 14, 15, 16, 17, 11, 18, 19, 20, 45, 46, 47, 48, 49] (by decide +kernel) (by decide +kernel)
set_option maxRecDepth 20000 in
theorem gX7_debtsMadeBy_X3_owed : GoodIn wsX7_debtsMadeBy (wsV RX7 271 RX3 yX3_owed wsX3_owed) := goodIn_app (goodIn_of _ (by decide +kernel)) ggX7_debtsMadeBy_X3_owed
set_option maxRecDepth 20000 in
theorem ggX7_debtsMadeBy_X2_inForce : GoodIn wsX7_debtsMadeBy wsX2_inForce := goodIn_r _ [25, 26, 27, 50, 51, 52, 53, 54, 55, 56, 57] (by decide +kernel) (by decide +kernel)
set_option maxRecDepth 20000 in
theorem gX7_debtsMadeBy_X2_inForce : GoodIn wsX7_debtsMadeBy (wsV RX7 112 RX2 yX2_inForce wsX2_inForce) := goodIn_app (goodIn_of _ (by decide +kernel)) ggX7_debtsMadeBy_X2_inForce
set_option maxRecDepth 20000 in
theorem ggX7_debtsMadeBy_X2_askedFor : GoodIn wsX7_debtsMadeBy wsX2_askedFor := goodIn_r _ [31, 32, 33, 34, 35, 3, 4, 5, 50, 51, 52, 53, 54, 55, 56, 57] (by decide +kernel) (by decide +kernel)
set_option maxRecDepth 20000 in
theorem gX7_debtsMadeBy_X2_askedFor : GoodIn wsX7_debtsMadeBy (wsV RX7 281 RX2 yX2_askedFor wsX2_askedFor) := goodIn_app (goodIn_of _ (by decide +kernel)) ggX7_debtsMadeBy_X2_askedFor
theorem dX7_debtsMadeBy_0 : decode cX7_debtsMadeBy 0 = .ok (.iload_n 3, 1) := by decide +kernel
theorem dX7_debtsMadeBy_1 : decode cX7_debtsMadeBy 1 = .ok (.i2l, 1) := by decide +kernel
theorem dX7_debtsMadeBy_2 : decode cX7_debtsMadeBy 2 = .ok (.iload_n 3, 1) := by decide +kernel
theorem dX7_debtsMadeBy_3 : decode cX7_debtsMadeBy 3 = .ok (.i2l, 1) := by decide +kernel
theorem dX7_debtsMadeBy_4 : decode cX7_debtsMadeBy 4 = .ok (.aload_n 0, 1) := by decide +kernel
theorem dX7_debtsMadeBy_5 : decode cX7_debtsMadeBy 5 = .ok (.getfield 40, 3) := by decide +kernel
theorem dX7_debtsMadeBy_8 : decode cX7_debtsMadeBy 8 = .ok (.iload_n 1, 1) := by decide +kernel
theorem dX7_debtsMadeBy_9 : decode cX7_debtsMadeBy 9 = .ok (.iload_n 2, 1) := by decide +kernel
theorem dX7_debtsMadeBy_10 : decode cX7_debtsMadeBy 10 = .ok (.invokevirtual 271, 3) := by decide +kernel
theorem dX7_debtsMadeBy_13 : decode cX7_debtsMadeBy 13 = .ok (.invokestatic 275, 3) := by decide +kernel
theorem dX7_debtsMadeBy_16 : decode cX7_debtsMadeBy 16 = .ok (.lsub, 1) := by decide +kernel
theorem dX7_debtsMadeBy_17 : decode cX7_debtsMadeBy 17 = .ok (.lstore 4, 2) := by decide +kernel
theorem dX7_debtsMadeBy_19 : decode cX7_debtsMadeBy 19 = .ok (.aload_n 0, 1) := by decide +kernel
theorem dX7_debtsMadeBy_20 : decode cX7_debtsMadeBy 20 = .ok (.getfield 26, 3) := by decide +kernel
theorem dX7_debtsMadeBy_23 : decode cX7_debtsMadeBy 23 = .ok (.aload_n 0, 1) := by decide +kernel
theorem dX7_debtsMadeBy_24 : decode cX7_debtsMadeBy 24 = .ok (.getfield 26, 3) := by decide +kernel
theorem dX7_debtsMadeBy_27 : decode cX7_debtsMadeBy 27 = .ok (.aload_n 0, 1) := by decide +kernel
theorem dX7_debtsMadeBy_28 : decode cX7_debtsMadeBy 28 = .ok (.getfield 58, 3) := by decide +kernel
theorem dX7_debtsMadeBy_31 : decode cX7_debtsMadeBy 31 = .ok (.invokevirtual 112, 3) := by decide +kernel
theorem dX7_debtsMadeBy_34 : decode cX7_debtsMadeBy 34 = .ok (.lload 4, 2) := by decide +kernel
theorem dX7_debtsMadeBy_36 : decode cX7_debtsMadeBy 36 = .ok (.invokevirtual 281, 3) := by decide +kernel
theorem dX7_debtsMadeBy_39 : decode cX7_debtsMadeBy 39 = .ok (.ifCond .le 7, 3) := by decide +kernel
theorem dX7_debtsMadeBy_42 : decode cX7_debtsMadeBy 42 = .ok (.iconst 1, 1) := by decide +kernel
theorem dX7_debtsMadeBy_43 : decode cX7_debtsMadeBy 43 = .ok (.goto 4, 3) := by decide +kernel
theorem dX7_debtsMadeBy_46 : decode cX7_debtsMadeBy 46 = .ok (.iconst 0, 1) := by decide +kernel
theorem dX7_debtsMadeBy_47 : decode cX7_debtsMadeBy 47 = .ok (.ireturn, 1) := by decide +kernel
set_option maxRecDepth 20000 in
theorem ggX7_debtsMadeByFeast_X7_isIn : GoodIn wsX7_debtsMadeByFeast wsX7_isIn := goodIn_r _ [6] (by decide +kernel) (by decide +kernel)
set_option maxRecDepth 20000 in
theorem gX7_debtsMadeByFeast_X7_isIn : GoodIn wsX7_debtsMadeByFeast (va_wsS RX7 185 yX7_isIn wsX7_isIn) := goodIn_app (goodIn_of _ (by decide +kernel)) ggX7_debtsMadeByFeast_X7_isIn
set_option maxRecDepth 20000 in
theorem ggX7_debtsMadeByFeast_X7_debtsMadeBy : GoodIn wsX7_debtsMadeByFeast wsX7_debtsMadeBy := goodIn_r _ [10, 11, 12, 13, 14, 15, 16, 17, 18, 19, 20, 21, 22, 23, 24, 25, 26, 27, 28, 29, 30, 31, 32, 33, 34, 35, 36, 37, 38, 39, 40, 41, 42, 43, 44, 45, 46, 47, 48, 49, 50, 51, 52, 53, 54, 59, 60, 61, 62, 63, 64, 65, 66, 67, 68, 69, 70, 71] (by decide +kernel) (by decide +kernel)
set_option maxRecDepth 20000 in
theorem gX7_debtsMadeByFeast_X7_debtsMadeBy : GoodIn wsX7_debtsMadeByFeast (wsV RX7 123 RX7 yX7_debtsMadeBy wsX7_debtsMadeBy) := goodIn_app (goodIn_of _ (by decide +kernel)) ggX7_debtsMadeByFeast_X7_debtsMadeBy
theorem dX7_debtsMadeByFeast_0 : decode cX7_debtsMadeByFeast 0 = .ok (.iconst 0, 1) := by decide +kernel
theorem dX7_debtsMadeByFeast_1 : decode cX7_debtsMadeByFeast 1 = .ok (.istore 4, 2) := by decide +kernel
theorem dX7_debtsMadeByFeast_3 : decode cX7_debtsMadeByFeast 3 = .ok (.iconst 0, 1) := by decide +kernel
theorem dX7_debtsMadeByFeast_4 : decode cX7_debtsMadeByFeast 4 = .ok (.istore 5, 2) := by decide +kernel
theorem dX7_debtsMadeByFeast_6 : decode cX7_debtsMadeByFeast 6 = .ok (.iload 5, 2) := by decide +kernel
theorem dX7_debtsMadeByFeast_8 : decode cX7_debtsMadeByFeast 8 = .ok (.aload_n 0, 1) := by decide +kernel
theorem dX7_debtsMadeByFeast_9 : decode cX7_debtsMadeByFeast 9 = .ok (.getfield 33, 3) := by decide +kernel
theorem dX7_debtsMadeByFeast_12 : decode cX7_debtsMadeByFeast 12 = .ok (.getfield 73, 3) := by decide +kernel
theorem dX7_debtsMadeByFeast_15 : decode cX7_debtsMadeByFeast 15 = .ok (.if_icmp .ge 31, 3) := by decide +kernel
theorem dX7_debtsMadeByFeast_18 : decode cX7_debtsMadeByFeast 18 = .ok (.iload_n 2, 1) := by decide +kernel
theorem dX7_debtsMadeByFeast_19 : decode cX7_debtsMadeByFeast 19 = .ok (.iload 5, 2) := by decide +kernel
theorem dX7_debtsMadeByFeast_21 : decode cX7_debtsMadeByFeast 21 = .ok (.invokestatic 185, 3) := by decide +kernel
theorem dX7_debtsMadeByFeast_24 : decode cX7_debtsMadeByFeast 24 = .ok (.ifCond .eq 16, 3) := by decide +kernel
theorem dX7_debtsMadeByFeast_27 : decode cX7_debtsMadeByFeast 27 = .ok (.iload 4, 2) := by decide +kernel
theorem dX7_debtsMadeByFeast_29 : decode cX7_debtsMadeByFeast 29 = .ok (.aload_n 0, 1) := by decide +kernel
theorem dX7_debtsMadeByFeast_30 : decode cX7_debtsMadeByFeast 30 = .ok (.iload_n 1, 1) := by decide +kernel
theorem dX7_debtsMadeByFeast_31 : decode cX7_debtsMadeByFeast 31 = .ok (.iload 5, 2) := by decide +kernel
theorem dX7_debtsMadeByFeast_33 : decode cX7_debtsMadeByFeast 33 = .ok (.iload_n 3, 1) := by decide +kernel
theorem dX7_debtsMadeByFeast_34 : decode cX7_debtsMadeByFeast 34 = .ok (.invokevirtual 123, 3) := by decide +kernel
theorem dX7_debtsMadeByFeast_37 : decode cX7_debtsMadeByFeast 37 = .ok (.iadd, 1) := by decide +kernel
theorem dX7_debtsMadeByFeast_38 : decode cX7_debtsMadeByFeast 38 = .ok (.istore 4, 2) := by decide +kernel
theorem dX7_debtsMadeByFeast_40 : decode cX7_debtsMadeByFeast 40 = .ok (.iinc 5 1, 3) := by decide +kernel
theorem dX7_debtsMadeByFeast_43 : decode cX7_debtsMadeByFeast 43 = .ok (.goto (-37), 3) := by decide +kernel
theorem dX7_debtsMadeByFeast_46 : decode cX7_debtsMadeByFeast 46 = .ok (.iload 4, 2) := by decide +kernel
theorem dX7_debtsMadeByFeast_48 : decode cX7_debtsMadeByFeast 48 = .ok (.ireturn, 1) := by decide +kernel
set_option maxRecDepth 20000 in
theorem ggX7_recordGiven_X3_answer : GoodIn wsX7_recordGiven wsX3_answer := goodIn_r _ [10, 11, 12, 13, 14, 15, 16, 17, 18, 19, 9, 20, 21, 22, 23, 24, 25, 26, 27, 28, 29, 30, 31, 32, 33, 34, 35, 36, 76, 77, 78, 79, 80] (by decide +kernel) (by decide +kernel)
set_option maxRecDepth 20000 in
theorem gX7_recordGiven_X3_answer : GoodIn wsX7_recordGiven (wsV RX7 285 RX3 yX3_answer wsX3_answer) := goodIn_app (goodIn_of _ (by decide +kernel)) ggX7_recordGiven_X3_answer
set_option maxRecDepth 20000 in
theorem ggX7_recordGiven_X2_inForce : GoodIn wsX7_recordGiven wsX2_inForce := goodIn_r _ [41, 42, 43, 81, 82, 83, 84, 85, 86, 87, 88] (by decide +kernel) (by decide +kernel)
set_option maxRecDepth 20000 in
theorem gX7_recordGiven_X2_inForce : GoodIn wsX7_recordGiven (wsV RX7 112 RX2 yX2_inForce wsX2_inForce) := goodIn_app (goodIn_of _ (by decide +kernel)) ggX7_recordGiven_X2_inForce
set_option maxRecDepth 20000 in
theorem ggX7_recordGiven_X2_askedFor : GoodIn wsX7_recordGiven wsX2_askedFor := goodIn_r _ [47, 48, 49, 50, 51, 52, 15, 53, 81, 82, 83, 84, 85, 86, 87, 88] (by decide +kernel) (by decide +kernel)
set_option maxRecDepth 20000 in
theorem gX7_recordGiven_X2_askedFor : GoodIn wsX7_recordGiven (wsV RX7 281 RX2 yX2_askedFor wsX2_askedFor) := goodIn_app (goodIn_of _ (by decide +kernel)) ggX7_recordGiven_X2_askedFor
set_option maxRecDepth 20000 in
theorem ggX7_recordGiven_X2_yearsToAnswer : GoodIn wsX7_recordGiven wsX2_yearsToAnswer := goodIn_r _ [57, 58, 81, 82, 83, 84, 85, 86, 87, 88] (by decide +kernel) (by decide +kernel)
set_option maxRecDepth 20000 in
theorem gX7_recordGiven_X2_yearsToAnswer : GoodIn wsX7_recordGiven (wsV RX7 288 RX2 yX2_yearsToAnswer wsX2_yearsToAnswer) := goodIn_app (goodIn_of _ (by decide +kernel)) ggX7_recordGiven_X2_yearsToAnswer
set_option maxRecDepth 20000 in
theorem ggX7_recordGiven_X3_add : GoodIn wsX7_recordGiven wsX3_add := goodIn_r _ [62, 25, 11, 26, 12, 32, 76, 77, 78, 79, 80] (by decide +kernel) (by decide +kernel)
set_option maxRecDepth 20000 in
theorem gX7_recordGiven_X3_add : GoodIn wsX7_recordGiven (wsV RX7 137 RX3 yX3_add wsX3_add) := goodIn_app (goodIn_of _ (by decide +kernel)) ggX7_recordGiven_X3_add
theorem dX7_recordGiven_0 : decode cX7_recordGiven 0 = .ok (.aload_n 0, 1) := by decide +kernel
theorem dX7_recordGiven_1 : decode cX7_recordGiven 1 = .ok (.getfield 40, 3) := by decide +kernel
theorem dX7_recordGiven_4 : decode cX7_recordGiven 4 = .ok (.iload_n 1, 1) := by decide +kernel
theorem dX7_recordGiven_5 : decode cX7_recordGiven 5 = .ok (.iload_n 2, 1) := by decide +kernel
theorem dX7_recordGiven_6 : decode cX7_recordGiven 6 = .ok (.iload_n 3, 1) := by decide +kernel
theorem dX7_recordGiven_7 : decode cX7_recordGiven 7 = .ok (.invokevirtual 285, 3) := by decide +kernel
theorem dX7_recordGiven_10 : decode cX7_recordGiven 10 = .ok (.istore 4, 2) := by decide +kernel
theorem dX7_recordGiven_12 : decode cX7_recordGiven 12 = .ok (.aload_n 0, 1) := by decide +kernel
theorem dX7_recordGiven_13 : decode cX7_recordGiven 13 = .ok (.getfield 33, 3) := by decide +kernel
theorem dX7_recordGiven_16 : decode cX7_recordGiven 16 = .ok (.getfield 238, 3) := by decide +kernel
theorem dX7_recordGiven_19 : decode cX7_recordGiven 19 = .ok (.iload_n 1, 1) := by decide +kernel
theorem dX7_recordGiven_20 : decode cX7_recordGiven 20 = .ok (.dup2, 1) := by decide +kernel
theorem dX7_recordGiven_21 : decode cX7_recordGiven 21 = .ok (.laload, 1) := by decide +kernel
theorem dX7_recordGiven_22 : decode cX7_recordGiven 22 = .ok (.iload_n 3, 1) := by decide +kernel
theorem dX7_recordGiven_23 : decode cX7_recordGiven 23 = .ok (.i2l, 1) := by decide +kernel
theorem dX7_recordGiven_24 : decode cX7_recordGiven 24 = .ok (.ladd, 1) := by decide +kernel
theorem dX7_recordGiven_25 : decode cX7_recordGiven 25 = .ok (.lastore, 1) := by decide +kernel
theorem dX7_recordGiven_26 : decode cX7_recordGiven 26 = .ok (.aload_n 0, 1) := by decide +kernel
theorem dX7_recordGiven_27 : decode cX7_recordGiven 27 = .ok (.getfield 26, 3) := by decide +kernel
theorem dX7_recordGiven_30 : decode cX7_recordGiven 30 = .ok (.aload_n 0, 1) := by decide +kernel
theorem dX7_recordGiven_31 : decode cX7_recordGiven 31 = .ok (.getfield 58, 3) := by decide +kernel
theorem dX7_recordGiven_34 : decode cX7_recordGiven 34 = .ok (.invokevirtual 112, 3) := by decide +kernel
theorem dX7_recordGiven_37 : decode cX7_recordGiven 37 = .ok (.istore 5, 2) := by decide +kernel
theorem dX7_recordGiven_39 : decode cX7_recordGiven 39 = .ok (.aload_n 0, 1) := by decide +kernel
theorem dX7_recordGiven_40 : decode cX7_recordGiven 40 = .ok (.getfield 26, 3) := by decide +kernel
theorem dX7_recordGiven_43 : decode cX7_recordGiven 43 = .ok (.iload 5, 2) := by decide +kernel
theorem dX7_recordGiven_45 : decode cX7_recordGiven 45 = .ok (.iload_n 3, 1) := by decide +kernel
theorem dX7_recordGiven_46 : decode cX7_recordGiven 46 = .ok (.iload 4, 2) := by decide +kernel
theorem dX7_recordGiven_48 : decode cX7_recordGiven 48 = .ok (.isub, 1) := by decide +kernel
theorem dX7_recordGiven_49 : decode cX7_recordGiven 49 = .ok (.i2l, 1) := by decide +kernel
theorem dX7_recordGiven_50 : decode cX7_recordGiven 50 = .ok (.invokevirtual 281, 3) := by decide +kernel
theorem dX7_recordGiven_53 : decode cX7_recordGiven 53 = .ok (.istore 6, 2) := by decide +kernel
theorem dX7_recordGiven_55 : decode cX7_recordGiven 55 = .ok (.iload 6, 2) := by decide +kernel
theorem dX7_recordGiven_57 : decode cX7_recordGiven 57 = .ok (.ifCond .le 29, 3) := by decide +kernel
theorem dX7_recordGiven_60 : decode cX7_recordGiven 60 = .ok (.aload_n 0, 1) := by decide +kernel
theorem dX7_recordGiven_61 : decode cX7_recordGiven 61 = .ok (.getfield 40, 3) := by decide +kernel
theorem dX7_recordGiven_64 : decode cX7_recordGiven 64 = .ok (.iload_n 2, 1) := by decide +kernel
theorem dX7_recordGiven_65 : decode cX7_recordGiven 65 = .ok (.iload_n 1, 1) := by decide +kernel
theorem dX7_recordGiven_66 : decode cX7_recordGiven 66 = .ok (.iload 6, 2) := by decide +kernel
theorem dX7_recordGiven_68 : decode cX7_recordGiven 68 = .ok (.aload_n 0, 1) := by decide +kernel
theorem dX7_recordGiven_69 : decode cX7_recordGiven 69 = .ok (.getfield 58, 3) := by decide +kernel
theorem dX7_recordGiven_72 : decode cX7_recordGiven 72 = .ok (.aload_n 0, 1) := by decide +kernel
theorem dX7_recordGiven_73 : decode cX7_recordGiven 73 = .ok (.getfield 26, 3) := by decide +kernel
theorem dX7_recordGiven_76 : decode cX7_recordGiven 76 = .ok (.iload 5, 2) := by decide +kernel
theorem dX7_recordGiven_78 : decode cX7_recordGiven 78 = .ok (.invokevirtual 288, 3) := by decide +kernel
theorem dX7_recordGiven_81 : decode cX7_recordGiven 81 = .ok (.iadd, 1) := by decide +kernel
theorem dX7_recordGiven_82 : decode cX7_recordGiven 82 = .ok (.invokevirtual 137, 3) := by decide +kernel
theorem dX7_recordGiven_85 : decode cX7_recordGiven 85 = .ok (.pop, 1) := by decide +kernel
theorem dX7_recordGiven_86 : decode cX7_recordGiven 86 = .ok (.iload 4, 2) := by decide +kernel
theorem dX7_recordGiven_88 : decode cX7_recordGiven 88 = .ok (.ireturn, 1) := by decide +kernel
set_option maxRecDepth 20000 in
theorem ggX7_growLoans_X2_inForce : GoodIn wsX7_growLoans wsX2_inForce := goodIn_r _ [10, 11, 12, 44, 45, 46, 47, 48, 49, 50, 51] (by decide +kernel) (by decide +kernel)
set_option maxRecDepth 20000 in
theorem gX7_growLoans_X2_inForce : GoodIn wsX7_growLoans (wsV RX7 112 RX2 yX2_inForce wsX2_inForce) := goodIn_app (goodIn_of _ (by decide +kernel)) ggX7_growLoans_X2_inForce
set_option maxRecDepth 20000 in
theorem ggX7_growLoans_X3_isLoan : GoodIn wsX7_growLoans wsX3_isLoan := goodIn_r _ [17, 18, 39, 40, 41, 42, 43] (by decide +kernel) (by decide +kernel)
set_option maxRecDepth 20000 in
theorem gX7_growLoans_X3_isLoan : GoodIn wsX7_growLoans (wsV RX7 221 RX3 yX3_isLoan wsX3_isLoan) := goodIn_app (goodIn_of _ (by decide +kernel)) ggX7_growLoans_X3_isLoan
set_option maxRecDepth 20000 in
theorem ggX7_growLoans_X2_grown : GoodIn wsX7_growLoans wsX2_grown := goodIn_r _ [22, 23, 24, 25, 26, 27, 28, 29, 44, 45, 46, 47, 48, 49, 50, 51] (by decide +kernel) (by decide +kernel)
set_option maxRecDepth 20000 in
theorem gX7_growLoans_X2_grown : GoodIn wsX7_growLoans (wsV RX7 291 RX2 yX2_grown wsX2_grown) := goodIn_app (goodIn_of _ (by decide +kernel)) ggX7_growLoans_X2_grown
theorem dX7_growLoans_0 : decode cX7_growLoans 0 = .ok (.aload_n 0, 1) := by decide +kernel
theorem dX7_growLoans_1 : decode cX7_growLoans 1 = .ok (.getfield 26, 3) := by decide +kernel
theorem dX7_growLoans_4 : decode cX7_growLoans 4 = .ok (.aload_n 0, 1) := by decide +kernel
theorem dX7_growLoans_5 : decode cX7_growLoans 5 = .ok (.getfield 58, 3) := by decide +kernel
theorem dX7_growLoans_8 : decode cX7_growLoans 8 = .ok (.invokevirtual 112, 3) := by decide +kernel
theorem dX7_growLoans_11 : decode cX7_growLoans 11 = .ok (.istore_n 1, 1) := by decide +kernel
theorem dX7_growLoans_12 : decode cX7_growLoans 12 = .ok (.iconst 0, 1) := by decide +kernel
theorem dX7_growLoans_13 : decode cX7_growLoans 13 = .ok (.istore_n 2, 1) := by decide +kernel
theorem dX7_growLoans_14 : decode cX7_growLoans 14 = .ok (.iload_n 2, 1) := by decide +kernel
theorem dX7_growLoans_15 : decode cX7_growLoans 15 = .ok (.aload_n 0, 1) := by decide +kernel
theorem dX7_growLoans_16 : decode cX7_growLoans 16 = .ok (.getfield 40, 3) := by decide +kernel
theorem dX7_growLoans_19 : decode cX7_growLoans 19 = .ok (.getfield 206, 3) := by decide +kernel
theorem dX7_growLoans_22 : decode cX7_growLoans 22 = .ok (.if_icmp .ge 46, 3) := by decide +kernel
theorem dX7_growLoans_25 : decode cX7_growLoans 25 = .ok (.aload_n 0, 1) := by decide +kernel
theorem dX7_growLoans_26 : decode cX7_growLoans 26 = .ok (.getfield 40, 3) := by decide +kernel
theorem dX7_growLoans_29 : decode cX7_growLoans 29 = .ok (.iload_n 2, 1) := by decide +kernel
theorem dX7_growLoans_30 : decode cX7_growLoans 30 = .ok (.invokevirtual 221, 3) := by decide +kernel
theorem dX7_growLoans_33 : decode cX7_growLoans 33 = .ok (.ifCond .eq 29, 3) := by decide +kernel
theorem dX7_growLoans_36 : decode cX7_growLoans 36 = .ok (.aload_n 0, 1) := by decide +kernel
theorem dX7_growLoans_37 : decode cX7_growLoans 37 = .ok (.getfield 40, 3) := by decide +kernel
theorem dX7_growLoans_40 : decode cX7_growLoans 40 = .ok (.getfield 218, 3) := by decide +kernel
theorem dX7_growLoans_43 : decode cX7_growLoans 43 = .ok (.iload_n 2, 1) := by decide +kernel
theorem dX7_growLoans_44 : decode cX7_growLoans 44 = .ok (.aload_n 0, 1) := by decide +kernel
theorem dX7_growLoans_45 : decode cX7_growLoans 45 = .ok (.getfield 26, 3) := by decide +kernel
theorem dX7_growLoans_48 : decode cX7_growLoans 48 = .ok (.iload_n 1, 1) := by decide +kernel
theorem dX7_growLoans_49 : decode cX7_growLoans 49 = .ok (.aload_n 0, 1) := by decide +kernel
theorem dX7_growLoans_50 : decode cX7_growLoans 50 = .ok (.getfield 40, 3) := by decide +kernel
theorem dX7_growLoans_53 : decode cX7_growLoans 53 = .ok (.getfield 218, 3) := by decide +kernel
theorem dX7_growLoans_56 : decode cX7_growLoans 56 = .ok (.iload_n 2, 1) := by decide +kernel
theorem dX7_growLoans_57 : decode cX7_growLoans 57 = .ok (.iaload, 1) := by decide +kernel
theorem dX7_growLoans_58 : decode cX7_growLoans 58 = .ok (.invokevirtual 291, 3) := by decide +kernel
theorem dX7_growLoans_61 : decode cX7_growLoans 61 = .ok (.iastore, 1) := by decide +kernel
theorem dX7_growLoans_62 : decode cX7_growLoans 62 = .ok (.iinc 2 1, 3) := by decide +kernel
theorem dX7_growLoans_65 : decode cX7_growLoans 65 = .ok (.goto (-51), 3) := by decide +kernel
theorem dX7_growLoans_68 : decode cX7_growLoans 68 = .ok (.return_, 1) := by decide +kernel
theorem dX8_init_0 : decode cX8_init 0 = .ok (.aload_n 0, 1) := by decide +kernel
theorem dX8_init_1 : decode cX8_init 1 = .ok (.invokespecial 1, 3) := by decide +kernel
theorem dX8_init_4 : decode cX8_init 4 = .ok (.aload_n 0, 1) := by decide +kernel
theorem dX8_init_5 : decode cX8_init 5 = .ok (.bipush 12, 2) := by decide +kernel
theorem dX8_init_7 : decode cX8_init 7 = .ok (.newarray .int, 2) := by decide +kernel
theorem dX8_init_9 : decode cX8_init 9 = .ok (.putfield 9, 3) := by decide +kernel
theorem dX8_init_12 : decode cX8_init 12 = .ok (.aload_n 0, 1) := by decide +kernel
theorem dX8_init_13 : decode cX8_init 13 = .ok (.bipush 12, 2) := by decide +kernel
theorem dX8_init_15 : decode cX8_init 15 = .ok (.newarray .long, 2) := by decide +kernel
theorem dX8_init_17 : decode cX8_init 17 = .ok (.putfield 13, 3) := by decide +kernel
theorem dX8_init_20 : decode cX8_init 20 = .ok (.aload_n 0, 1) := by decide +kernel
theorem dX8_init_21 : decode cX8_init 21 = .ok (.bipush 12, 2) := by decide +kernel
theorem dX8_init_23 : decode cX8_init 23 = .ok (.newarray .boolean, 2) := by decide +kernel
theorem dX8_init_25 : decode cX8_init 25 = .ok (.putfield 17, 3) := by decide +kernel
theorem dX8_init_28 : decode cX8_init 28 = .ok (.aload_n 0, 1) := by decide +kernel
theorem dX8_init_29 : decode cX8_init 29 = .ok (.sipush 200, 3) := by decide +kernel
theorem dX8_init_32 : decode cX8_init 32 = .ok (.newarray .byte, 2) := by decide +kernel
theorem dX8_init_34 : decode cX8_init 34 = .ok (.putfield 21, 3) := by decide +kernel
theorem dX8_init_37 : decode cX8_init 37 = .ok (.aload_n 0, 1) := by decide +kernel
theorem dX8_init_38 : decode cX8_init 38 = .ok (.iconst (-1), 1) := by decide +kernel
theorem dX8_init_39 : decode cX8_init 39 = .ok (.putfield 25, 3) := by decide +kernel
theorem dX8_init_42 : decode cX8_init 42 = .ok (.aload_n 0, 1) := by decide +kernel
theorem dX8_init_43 : decode cX8_init 43 = .ok (.bipush 20, 2) := by decide +kernel
theorem dX8_init_45 : decode cX8_init 45 = .ok (.newarray .int, 2) := by decide +kernel
theorem dX8_init_47 : decode cX8_init 47 = .ok (.putfield 29, 3) := by decide +kernel
theorem dX8_init_50 : decode cX8_init 50 = .ok (.aload_n 0, 1) := by decide +kernel
theorem dX8_init_51 : decode cX8_init 51 = .ok (.bipush 126, 2) := by decide +kernel
theorem dX8_init_53 : decode cX8_init 53 = .ok (.newarray .int, 2) := by decide +kernel
theorem dX8_init_55 : decode cX8_init 55 = .ok (.putfield 32, 3) := by decide +kernel
theorem dX8_init_58 : decode cX8_init 58 = .ok (.aload_n 0, 1) := by decide +kernel
theorem dX8_init_59 : decode cX8_init 59 = .ok (.sipush 400, 3) := by decide +kernel
theorem dX8_init_62 : decode cX8_init 62 = .ok (.newarray .int, 2) := by decide +kernel
theorem dX8_init_64 : decode cX8_init 64 = .ok (.putfield 35, 3) := by decide +kernel
theorem dX8_init_67 : decode cX8_init 67 = .ok (.aload_n 0, 1) := by decide +kernel
theorem dX8_init_68 : decode cX8_init 68 = .ok (.sipush 400, 3) := by decide +kernel
theorem dX8_init_71 : decode cX8_init 71 = .ok (.newarray .int, 2) := by decide +kernel
theorem dX8_init_73 : decode cX8_init 73 = .ok (.putfield 38, 3) := by decide +kernel
theorem dX8_init_76 : decode cX8_init 76 = .ok (.aload_n 0, 1) := by decide +kernel
theorem dX8_init_77 : decode cX8_init 77 = .ok (.sipush 400, 3) := by decide +kernel
theorem dX8_init_80 : decode cX8_init 80 = .ok (.newarray .long, 2) := by decide +kernel
theorem dX8_init_82 : decode cX8_init 82 = .ok (.putfield 41, 3) := by decide +kernel
theorem dX8_init_85 : decode cX8_init 85 = .ok (.aload_n 0, 1) := by decide +kernel
theorem dX8_init_86 : decode cX8_init 86 = .ok (.sipush 400, 3) := by decide +kernel
theorem dX8_init_89 : decode cX8_init 89 = .ok (.newarray .boolean, 2) := by decide +kernel
theorem dX8_init_91 : decode cX8_init 91 = .ok (.putfield 44, 3) := by decide +kernel
theorem dX8_init_94 : decode cX8_init 94 = .ok (.aload_n 0, 1) := by decide +kernel
theorem dX8_init_95 : decode cX8_init 95 = .ok (.sipush 400, 3) := by decide +kernel
theorem dX8_init_98 : decode cX8_init 98 = .ok (.newarray .int, 2) := by decide +kernel
end
section
theorem dX8_init_100 : decode cX8_init 100 = .ok (.putfield 47, 3) := by decide +kernel
theorem dX8_init_103 : decode cX8_init 103 = .ok (.aload_n 0, 1) := by decide +kernel
theorem dX8_init_104 : decode cX8_init 104 = .ok (.bipush 30, 2) := by decide +kernel
theorem dX8_init_106 : decode cX8_init 106 = .ok (.newarray .int, 2) := by decide +kernel
theorem dX8_init_108 : decode cX8_init 108 = .ok (.putfield 50, 3) := by decide +kernel
theorem dX8_init_111 : decode cX8_init 111 = .ok (.aload_n 0, 1) := by decide +kernel
theorem dX8_init_112 : decode cX8_init 112 = .ok (.bipush 30, 2) := by decide +kernel
theorem dX8_init_114 : decode cX8_init 114 = .ok (.newarray .int, 2) := by decide +kernel
theorem dX8_init_116 : decode cX8_init 116 = .ok (.putfield 53, 3) := by decide +kernel
theorem dX8_init_119 : decode cX8_init 119 = .ok (.aload_n 0, 1) := by decide +kernel
theorem dX8_init_120 : decode cX8_init 120 = .ok (.bipush 30, 2) := by decide +kernel
theorem dX8_init_122 : decode cX8_init 122 = .ok (.newarray .int, 2) := by decide +kernel
theorem dX8_init_124 : decode cX8_init 124 = .ok (.putfield 56, 3) := by decide +kernel
theorem dX8_init_127 : decode cX8_init 127 = .ok (.aload_n 0, 1) := by decide +kernel
theorem dX8_init_128 : decode cX8_init 128 = .ok (.sipush 144, 3) := by decide +kernel
theorem dX8_init_131 : decode cX8_init 131 = .ok (.newarray .long, 2) := by decide +kernel
theorem dX8_init_133 : decode cX8_init 133 = .ok (.putfield 59, 3) := by decide +kernel
theorem dX8_init_136 : decode cX8_init 136 = .ok (.aload_n 0, 1) := by decide +kernel
theorem dX8_init_137 : decode cX8_init 137 = .ok (.bipush 12, 2) := by decide +kernel
theorem dX8_init_139 : decode cX8_init 139 = .ok (.newarray .long, 2) := by decide +kernel
theorem dX8_init_141 : decode cX8_init 141 = .ok (.putfield 62, 3) := by decide +kernel
theorem dX8_init_144 : decode cX8_init 144 = .ok (.aload_n 0, 1) := by decide +kernel
theorem dX8_init_145 : decode cX8_init 145 = .ok (.bipush 12, 2) := by decide +kernel
theorem dX8_init_147 : decode cX8_init 147 = .ok (.newarray .int, 2) := by decide +kernel
theorem dX8_init_149 : decode cX8_init 149 = .ok (.putfield 65, 3) := by decide +kernel
theorem dX8_init_152 : decode cX8_init 152 = .ok (.aload_n 0, 1) := by decide +kernel
theorem dX8_init_153 : decode cX8_init 153 = .ok (.bipush 12, 2) := by decide +kernel
theorem dX8_init_155 : decode cX8_init 155 = .ok (.newarray .boolean, 2) := by decide +kernel
theorem dX8_init_157 : decode cX8_init 157 = .ok (.putfield 68, 3) := by decide +kernel
theorem dX8_init_160 : decode cX8_init 160 = .ok (.aload_n 0, 1) := by decide +kernel
theorem dX8_init_161 : decode cX8_init 161 = .ok (.bipush 12, 2) := by decide +kernel
theorem dX8_init_163 : decode cX8_init 163 = .ok (.newarray .int, 2) := by decide +kernel
theorem dX8_init_165 : decode cX8_init 165 = .ok (.putfield 71, 3) := by decide +kernel
theorem dX8_init_168 : decode cX8_init 168 = .ok (.return_, 1) := by decide +kernel
theorem dX8_thrown_0 : decode cX8_thrown 0 = .ok (.aload_n 0, 1) := by decide +kernel
theorem dX8_thrown_1 : decode cX8_thrown 1 = .ok (.getfield 74, 3) := by decide +kernel
theorem dX8_thrown_4 : decode cX8_thrown 4 = .ok (.ireturn, 1) := by decide +kernel
theorem dX8_bad_0 : decode cX8_bad 0 = .ok (.iload_n 1, 1) := by decide +kernel
theorem dX8_bad_1 : decode cX8_bad 1 = .ok (.ifCond .eq 8, 3) := by decide +kernel
theorem dX8_bad_4 : decode cX8_bad 4 = .ok (.aload_n 0, 1) := by decide +kernel
theorem dX8_bad_5 : decode cX8_bad 5 = .ok (.iload_n 2, 1) := by decide +kernel
theorem dX8_bad_6 : decode cX8_bad 6 = .ok (.putfield 74, 3) := by decide +kernel
theorem dX8_bad_9 : decode cX8_bad 9 = .ok (.iload_n 1, 1) := by decide +kernel
theorem dX8_bad_10 : decode cX8_bad 10 = .ok (.ireturn, 1) := by decide +kernel
set_option maxRecDepth 20000 in
theorem ggX8_chief_X8_bad : GoodIn wsX8_chief wsX8_bad := goodIn_r _ [9, 1, 10, 11, 12, 13, 14, 15, 16, 17, 18, 19, 20, 21, 22, 23, 24, 25, 26, 27, 28, 29, 30, 31, 32, 33, 34, 35, 36, 37, 38, 39, 40] (by decide +kernel) (by decide +kernel)
set_option maxRecDepth 20000 in
theorem gX8_chief_X8_bad : GoodIn wsX8_chief (wsV RX8 78 RX8 yX8_bad wsX8_bad) := goodIn_app (goodIn_of _ (by decide +kernel)) ggX8_chief_X8_bad
theorem dX8_chief_0 : decode cX8_chief 0 = .ok (.aload_n 0, 1) := by decide +kernel
theorem dX8_chief_1 : decode cX8_chief 1 = .ok (.iconst 0, 1) := by decide +kernel
theorem dX8_chief_2 : decode cX8_chief 2 = .ok (.putfield 74, 3) := by decide +kernel
theorem dX8_chief_5 : decode cX8_chief 5 = .ok (.aload_n 0, 1) := by decide +kernel
theorem dX8_chief_6 : decode cX8_chief 6 = .ok (.iload_n 1, 1) := by decide +kernel
theorem dX8_chief_7 : decode cX8_chief 7 = .ok (.ifCond .lt 9, 3) := by decide +kernel
theorem dX8_chief_10 : decode cX8_chief 10 = .ok (.iload_n 1, 1) := by decide +kernel
theorem dX8_chief_11 : decode cX8_chief 11 = .ok (.ldc 77, 2) := by decide +kernel
theorem dX8_chief_13 : decode cX8_chief 13 = .ok (.if_icmp .le 7, 3) := by decide +kernel
theorem dX8_chief_16 : decode cX8_chief 16 = .ok (.iconst 1, 1) := by decide +kernel
theorem dX8_chief_17 : decode cX8_chief 17 = .ok (.goto 4, 3) := by decide +kernel
theorem dX8_chief_20 : decode cX8_chief 20 = .ok (.iconst 0, 1) := by decide +kernel
theorem dX8_chief_21 : decode cX8_chief 21 = .ok (.iconst 1, 1) := by decide +kernel
theorem dX8_chief_22 : decode cX8_chief 22 = .ok (.invokevirtual 78, 3) := by decide +kernel
theorem dX8_chief_25 : decode cX8_chief 25 = .ok (.ifCond .ne 25, 3) := by decide +kernel
theorem dX8_chief_28 : decode cX8_chief 28 = .ok (.aload_n 0, 1) := by decide +kernel
theorem dX8_chief_29 : decode cX8_chief 29 = .ok (.aload_n 0, 1) := by decide +kernel
theorem dX8_chief_30 : decode cX8_chief 30 = .ok (.getfield 82, 3) := by decide +kernel
theorem dX8_chief_33 : decode cX8_chief 33 = .ok (.bipush 12, 2) := by decide +kernel
theorem dX8_chief_35 : decode cX8_chief 35 = .ok (.if_icmp .ne 7, 3) := by decide +kernel
theorem dX8_chief_38 : decode cX8_chief 38 = .ok (.iconst 1, 1) := by decide +kernel
theorem dX8_chief_39 : decode cX8_chief 39 = .ok (.goto 4, 3) := by decide +kernel
theorem dX8_chief_42 : decode cX8_chief 42 = .ok (.iconst 0, 1) := by decide +kernel
theorem dX8_chief_43 : decode cX8_chief 43 = .ok (.iconst 2, 1) := by decide +kernel
theorem dX8_chief_44 : decode cX8_chief 44 = .ok (.invokevirtual 78, 3) := by decide +kernel
theorem dX8_chief_47 : decode cX8_chief 47 = .ok (.ifCond .eq 5, 3) := by decide +kernel
theorem dX8_chief_50 : decode cX8_chief 50 = .ok (.iconst 0, 1) := by decide +kernel
theorem dX8_chief_51 : decode cX8_chief 51 = .ok (.ireturn, 1) := by decide +kernel
theorem dX8_chief_52 : decode cX8_chief 52 = .ok (.aload_n 0, 1) := by decide +kernel
theorem dX8_chief_53 : decode cX8_chief 53 = .ok (.getfield 9, 3) := by decide +kernel
theorem dX8_chief_56 : decode cX8_chief 56 = .ok (.aload_n 0, 1) := by decide +kernel
theorem dX8_chief_57 : decode cX8_chief 57 = .ok (.getfield 82, 3) := by decide +kernel
theorem dX8_chief_60 : decode cX8_chief 60 = .ok (.iload_n 1, 1) := by decide +kernel
theorem dX8_chief_61 : decode cX8_chief 61 = .ok (.iastore, 1) := by decide +kernel
theorem dX8_chief_62 : decode cX8_chief 62 = .ok (.aload_n 0, 1) := by decide +kernel
theorem dX8_chief_63 : decode cX8_chief 63 = .ok (.dup, 1) := by decide +kernel
theorem dX8_chief_64 : decode cX8_chief 64 = .ok (.getfield 82, 3) := by decide +kernel
theorem dX8_chief_67 : decode cX8_chief 67 = .ok (.iconst 1, 1) := by decide +kernel
theorem dX8_chief_68 : decode cX8_chief 68 = .ok (.iadd, 1) := by decide +kernel
theorem dX8_chief_69 : decode cX8_chief 69 = .ok (.putfield 82, 3) := by decide +kernel
theorem dX8_chief_72 : decode cX8_chief 72 = .ok (.aload_n 0, 1) := by decide +kernel
theorem dX8_chief_73 : decode cX8_chief 73 = .ok (.getfield 82, 3) := by decide +kernel
theorem dX8_chief_76 : decode cX8_chief 76 = .ok (.iconst 1, 1) := by decide +kernel
theorem dX8_chief_77 : decode cX8_chief 77 = .ok (.isub, 1) := by decide +kernel
theorem dX8_chief_78 : decode cX8_chief 78 = .ok (.ireturn, 1) := by decide +kernel
theorem dX8_isChief_0 : decode cX8_isChief 0 = .ok (.iload_n 1, 1) := by decide +kernel
theorem dX8_isChief_1 : decode cX8_isChief 1 = .ok (.ifCond .lt 15, 3) := by decide +kernel
theorem dX8_isChief_4 : decode cX8_isChief 4 = .ok (.iload_n 1, 1) := by decide +kernel
theorem dX8_isChief_5 : decode cX8_isChief 5 = .ok (.aload_n 0, 1) := by decide +kernel
theorem dX8_isChief_6 : decode cX8_isChief 6 = .ok (.getfield 82, 3) := by decide +kernel
theorem dX8_isChief_9 : decode cX8_isChief 9 = .ok (.if_icmp .ge 7, 3) := by decide +kernel
theorem dX8_isChief_12 : decode cX8_isChief 12 = .ok (.iconst 1, 1) := by decide +kernel
theorem dX8_isChief_13 : decode cX8_isChief 13 = .ok (.goto 4, 3) := by decide +kernel
theorem dX8_isChief_16 : decode cX8_isChief 16 = .ok (.iconst 0, 1) := by decide +kernel
theorem dX8_isChief_17 : decode cX8_isChief 17 = .ok (.ireturn, 1) := by decide +kernel
theorem dX8_feed_0 : decode cX8_feed 0 = .ok (.aload_n 0, 1) := by decide +kernel
theorem dX8_feed_1 : decode cX8_feed 1 = .ok (.iconst 0, 1) := by decide +kernel
theorem dX8_feed_2 : decode cX8_feed 2 = .ok (.putfield 74, 3) := by decide +kernel
theorem dX8_feed_5 : decode cX8_feed 5 = .ok (.aload_n 0, 1) := by decide +kernel
theorem dX8_feed_6 : decode cX8_feed 6 = .ok (.getfield 85, 3) := by decide +kernel
theorem dX8_feed_9 : decode cX8_feed 9 = .ok (.bipush 20, 2) := by decide +kernel
theorem dX8_feed_11 : decode cX8_feed 11 = .ok (.iadd, 1) := by decide +kernel
theorem dX8_feed_12 : decode cX8_feed 12 = .ok (.sipush 200, 3) := by decide +kernel
theorem dX8_feed_15 : decode cX8_feed 15 = .ok (.if_icmp .le 5, 3) := by decide +kernel
theorem dX8_feed_18 : decode cX8_feed 18 = .ok (.iconst (-1), 1) := by decide +kernel
theorem dX8_feed_19 : decode cX8_feed 19 = .ok (.ireturn, 1) := by decide +kernel
theorem dX8_feed_20 : decode cX8_feed 20 = .ok (.iconst 0, 1) := by decide +kernel
theorem dX8_feed_21 : decode cX8_feed 21 = .ok (.istore 6, 2) := by decide +kernel
theorem dX8_feed_23 : decode cX8_feed 23 = .ok (.iload 6, 2) := by decide +kernel
theorem dX8_feed_25 : decode cX8_feed 25 = .ok (.iconst 5, 1) := by decide +kernel
theorem dX8_feed_26 : decode cX8_feed 26 = .ok (.if_icmp .ge 93, 3) := by decide +kernel
theorem dX8_feed_29 : decode cX8_feed 29 = .ok (.iload 6, 2) := by decide +kernel
theorem dX8_feed_31 : decode cX8_feed 31 = .ok (.ifCond .ne 7, 3) := by decide +kernel
theorem dX8_feed_34 : decode cX8_feed 34 = .ok (.iload_n 1, 1) := by decide +kernel
theorem dX8_feed_35 : decode cX8_feed 35 = .ok (.goto 36, 3) := by decide +kernel
theorem dX8_feed_38 : decode cX8_feed 38 = .ok (.iload 6, 2) := by decide +kernel
theorem dX8_feed_40 : decode cX8_feed 40 = .ok (.iconst 1, 1) := by decide +kernel
theorem dX8_feed_41 : decode cX8_feed 41 = .ok (.if_icmp .ne 7, 3) := by decide +kernel
theorem dX8_feed_44 : decode cX8_feed 44 = .ok (.iload_n 2, 1) := by decide +kernel
theorem dX8_feed_45 : decode cX8_feed 45 = .ok (.goto 26, 3) := by decide +kernel
theorem dX8_feed_48 : decode cX8_feed 48 = .ok (.iload 6, 2) := by decide +kernel
theorem dX8_feed_50 : decode cX8_feed 50 = .ok (.iconst 2, 1) := by decide +kernel
theorem dX8_feed_51 : decode cX8_feed 51 = .ok (.if_icmp .ne 7, 3) := by decide +kernel
theorem dX8_feed_54 : decode cX8_feed 54 = .ok (.iload_n 3, 1) := by decide +kernel
theorem dX8_feed_55 : decode cX8_feed 55 = .ok (.goto 16, 3) := by decide +kernel
theorem dX8_feed_58 : decode cX8_feed 58 = .ok (.iload 6, 2) := by decide +kernel
theorem dX8_feed_60 : decode cX8_feed 60 = .ok (.iconst 3, 1) := by decide +kernel
theorem dX8_feed_61 : decode cX8_feed 61 = .ok (.if_icmp .ne 8, 3) := by decide +kernel
theorem dX8_feed_64 : decode cX8_feed 64 = .ok (.iload 4, 2) := by decide +kernel
theorem dX8_feed_66 : decode cX8_feed 66 = .ok (.goto 5, 3) := by decide +kernel
theorem dX8_feed_69 : decode cX8_feed 69 = .ok (.iload 5, 2) := by decide +kernel
theorem dX8_feed_71 : decode cX8_feed 71 = .ok (.istore 7, 2) := by decide +kernel
theorem dX8_feed_73 : decode cX8_feed 73 = .ok (.bipush 24, 2) := by decide +kernel
theorem dX8_feed_75 : decode cX8_feed 75 = .ok (.istore 8, 2) := by decide +kernel
theorem dX8_feed_77 : decode cX8_feed 77 = .ok (.iload 8, 2) := by decide +kernel
theorem dX8_feed_79 : decode cX8_feed 79 = .ok (.ifCond .lt 34, 3) := by decide +kernel
theorem dX8_feed_82 : decode cX8_feed 82 = .ok (.aload_n 0, 1) := by decide +kernel
theorem dX8_feed_83 : decode cX8_feed 83 = .ok (.getfield 21, 3) := by decide +kernel
theorem dX8_feed_86 : decode cX8_feed 86 = .ok (.aload_n 0, 1) := by decide +kernel
theorem dX8_feed_87 : decode cX8_feed 87 = .ok (.getfield 85, 3) := by decide +kernel
theorem dX8_feed_90 : decode cX8_feed 90 = .ok (.iload 7, 2) := by decide +kernel
theorem dX8_feed_92 : decode cX8_feed 92 = .ok (.iload 8, 2) := by decide +kernel
theorem dX8_feed_94 : decode cX8_feed 94 = .ok (.ishr, 1) := by decide +kernel
theorem dX8_feed_95 : decode cX8_feed 95 = .ok (.i2b, 1) := by decide +kernel
theorem dX8_feed_96 : decode cX8_feed 96 = .ok (.bastore, 1) := by decide +kernel
theorem dX8_feed_97 : decode cX8_feed 97 = .ok (.aload_n 0, 1) := by decide +kernel
theorem dX8_feed_98 : decode cX8_feed 98 = .ok (.dup, 1) := by decide +kernel
theorem dX8_feed_99 : decode cX8_feed 99 = .ok (.getfield 85, 3) := by decide +kernel
theorem dX8_feed_102 : decode cX8_feed 102 = .ok (.iconst 1, 1) := by decide +kernel
theorem dX8_feed_103 : decode cX8_feed 103 = .ok (.iadd, 1) := by decide +kernel
theorem dX8_feed_104 : decode cX8_feed 104 = .ok (.putfield 85, 3) := by decide +kernel
theorem dX8_feed_107 : decode cX8_feed 107 = .ok (.iinc 8 (-8), 3) := by decide +kernel
theorem dX8_feed_110 : decode cX8_feed 110 = .ok (.goto (-33), 3) := by decide +kernel
theorem dX8_feed_113 : decode cX8_feed 113 = .ok (.iinc 6 1, 3) := by decide +kernel
theorem dX8_feed_116 : decode cX8_feed 116 = .ok (.goto (-93), 3) := by decide +kernel
theorem dX8_feed_119 : decode cX8_feed 119 = .ok (.aload_n 0, 1) := by decide +kernel
theorem dX8_feed_120 : decode cX8_feed 120 = .ok (.getfield 85, 3) := by decide +kernel
theorem dX8_feed_123 : decode cX8_feed 123 = .ok (.ireturn, 1) := by decide +kernel
theorem dX8_byteAt_0 : decode cX8_byteAt 0 = .ok (.iload_n 1, 1) := by decide +kernel
theorem dX8_byteAt_1 : decode cX8_byteAt 1 = .ok (.aload_n 0, 1) := by decide +kernel
theorem dX8_byteAt_2 : decode cX8_byteAt 2 = .ok (.getfield 88, 3) := by decide +kernel
theorem dX8_byteAt_5 : decode cX8_byteAt 5 = .ok (.if_icmp .ge 16, 3) := by decide +kernel
theorem dX8_byteAt_8 : decode cX8_byteAt 8 = .ok (.aload_n 0, 1) := by decide +kernel
theorem dX8_byteAt_9 : decode cX8_byteAt 9 = .ok (.getfield 21, 3) := by decide +kernel
theorem dX8_byteAt_12 : decode cX8_byteAt 12 = .ok (.iload_n 1, 1) := by decide +kernel
theorem dX8_byteAt_13 : decode cX8_byteAt 13 = .ok (.baload, 1) := by decide +kernel
theorem dX8_byteAt_14 : decode cX8_byteAt 14 = .ok (.sipush 255, 3) := by decide +kernel
theorem dX8_byteAt_17 : decode cX8_byteAt 17 = .ok (.iand, 1) := by decide +kernel
theorem dX8_byteAt_18 : decode cX8_byteAt 18 = .ok (.goto 4, 3) := by decide +kernel
theorem dX8_byteAt_21 : decode cX8_byteAt 21 = .ok (.iconst 0, 1) := by decide +kernel
theorem dX8_byteAt_22 : decode cX8_byteAt 22 = .ok (.ireturn, 1) := by decide +kernel
set_option maxRecDepth 20000 in
theorem ggX8_blanks_X8_byteAt : GoodIn wsX8_blanks wsX8_byteAt := goodIn_r _ [7, 2, 8, 9, 10, 11, 12, 13, 14, 15, 16, 17, 18, 19, 20, 21, 22, 23, 24, 25, 26, 27, 28, 29, 30, 31, 32, 33, 34, 35, 36, 37, 38, 39] (by decide +kernel) (by decide +kernel)
set_option maxRecDepth 20000 in
theorem gX8_blanks_X8_byteAt : GoodIn wsX8_blanks (wsV RX8 94 RX8 yX8_byteAt wsX8_byteAt) := goodIn_app (goodIn_of _ (by decide +kernel)) ggX8_blanks_X8_byteAt
theorem dX8_blanks_0 : decode cX8_blanks 0 = .ok (.aload_n 0, 1) := by decide +kernel
theorem dX8_blanks_1 : decode cX8_blanks 1 = .ok (.getfield 91, 3) := by decide +kernel
theorem dX8_blanks_4 : decode cX8_blanks 4 = .ok (.aload_n 0, 1) := by decide +kernel
theorem dX8_blanks_5 : decode cX8_blanks 5 = .ok (.getfield 88, 3) := by decide +kernel
theorem dX8_blanks_8 : decode cX8_blanks 8 = .ok (.if_icmp .ge 29, 3) := by decide +kernel
theorem dX8_blanks_11 : decode cX8_blanks 11 = .ok (.aload_n 0, 1) := by decide +kernel
theorem dX8_blanks_12 : decode cX8_blanks 12 = .ok (.aload_n 0, 1) := by decide +kernel
theorem dX8_blanks_13 : decode cX8_blanks 13 = .ok (.getfield 91, 3) := by decide +kernel
theorem dX8_blanks_16 : decode cX8_blanks 16 = .ok (.invokevirtual 94, 3) := by decide +kernel
theorem dX8_blanks_19 : decode cX8_blanks 19 = .ok (.bipush 32, 2) := by decide +kernel
theorem dX8_blanks_21 : decode cX8_blanks 21 = .ok (.if_icmp .ne 16, 3) := by decide +kernel
theorem dX8_blanks_24 : decode cX8_blanks 24 = .ok (.aload_n 0, 1) := by decide +kernel
theorem dX8_blanks_25 : decode cX8_blanks 25 = .ok (.dup, 1) := by decide +kernel
theorem dX8_blanks_26 : decode cX8_blanks 26 = .ok (.getfield 91, 3) := by decide +kernel
theorem dX8_blanks_29 : decode cX8_blanks 29 = .ok (.iconst 1, 1) := by decide +kernel
theorem dX8_blanks_30 : decode cX8_blanks 30 = .ok (.iadd, 1) := by decide +kernel
theorem dX8_blanks_31 : decode cX8_blanks 31 = .ok (.putfield 91, 3) := by decide +kernel
theorem dX8_blanks_34 : decode cX8_blanks 34 = .ok (.goto (-34), 3) := by decide +kernel
theorem dX8_blanks_37 : decode cX8_blanks 37 = .ok (.return_, 1) := by decide +kernel
theorem dX8_isSmall_0 : decode cX8_isSmall 0 = .ok (.iload_n 0, 1) := by decide +kernel
theorem dX8_isSmall_1 : decode cX8_isSmall 1 = .ok (.bipush 97, 2) := by decide +kernel
theorem dX8_isSmall_3 : decode cX8_isSmall 3 = .ok (.if_icmp .lt 13, 3) := by decide +kernel
theorem dX8_isSmall_6 : decode cX8_isSmall 6 = .ok (.iload_n 0, 1) := by decide +kernel
theorem dX8_isSmall_7 : decode cX8_isSmall 7 = .ok (.bipush 122, 2) := by decide +kernel
theorem dX8_isSmall_9 : decode cX8_isSmall 9 = .ok (.if_icmp .gt 7, 3) := by decide +kernel
theorem dX8_isSmall_12 : decode cX8_isSmall 12 = .ok (.iconst 1, 1) := by decide +kernel
theorem dX8_isSmall_13 : decode cX8_isSmall 13 = .ok (.goto 4, 3) := by decide +kernel
theorem dX8_isSmall_16 : decode cX8_isSmall 16 = .ok (.iconst 0, 1) := by decide +kernel
theorem dX8_isSmall_17 : decode cX8_isSmall 17 = .ok (.ireturn, 1) := by decide +kernel
theorem dX8_isDigit_0 : decode cX8_isDigit 0 = .ok (.iload_n 0, 1) := by decide +kernel
theorem dX8_isDigit_1 : decode cX8_isDigit 1 = .ok (.bipush 48, 2) := by decide +kernel
theorem dX8_isDigit_3 : decode cX8_isDigit 3 = .ok (.if_icmp .lt 13, 3) := by decide +kernel
theorem dX8_isDigit_6 : decode cX8_isDigit 6 = .ok (.iload_n 0, 1) := by decide +kernel
theorem dX8_isDigit_7 : decode cX8_isDigit 7 = .ok (.bipush 57, 2) := by decide +kernel
theorem dX8_isDigit_9 : decode cX8_isDigit 9 = .ok (.if_icmp .gt 7, 3) := by decide +kernel
theorem dX8_isDigit_12 : decode cX8_isDigit 12 = .ok (.iconst 1, 1) := by decide +kernel
theorem dX8_isDigit_13 : decode cX8_isDigit 13 = .ok (.goto 4, 3) := by decide +kernel
theorem dX8_isDigit_16 : decode cX8_isDigit 16 = .ok (.iconst 0, 1) := by decide +kernel
theorem dX8_isDigit_17 : decode cX8_isDigit 17 = .ok (.ireturn, 1) := by decide +kernel
theorem dX8_wrong_0 : decode cX8_wrong 0 = .ok (.aload_n 0, 1) := by decide +kernel
theorem dX8_wrong_1 : decode cX8_wrong 1 = .ok (.getfield 98, 3) := by decide +kernel
theorem dX8_wrong_4 : decode cX8_wrong 4 = .ok (.ifCond .le 4, 3) := by decide +kernel
theorem dX8_wrong_7 : decode cX8_wrong 7 = .ok (.return_, 1) := by decide +kernel
theorem dX8_wrong_8 : decode cX8_wrong 8 = .ok (.aload_n 0, 1) := by decide +kernel
theorem dX8_wrong_9 : decode cX8_wrong 9 = .ok (.iload_n 1, 1) := by decide +kernel
theorem dX8_wrong_10 : decode cX8_wrong 10 = .ok (.putfield 98, 3) := by decide +kernel
theorem dX8_wrong_13 : decode cX8_wrong 13 = .ok (.aload_n 0, 1) := by decide +kernel
theorem dX8_wrong_14 : decode cX8_wrong 14 = .ok (.iload_n 2, 1) := by decide +kernel
theorem dX8_wrong_15 : decode cX8_wrong 15 = .ok (.putfield 25, 3) := by decide +kernel
theorem dX8_wrong_18 : decode cX8_wrong 18 = .ok (.return_, 1) := by decide +kernel
set_option maxRecDepth 20000 in
theorem ggX8_isWord_X8_blanks : GoodIn wsX8_isWord wsX8_blanks := goodIn_r _ [6, 1, 7, 8, 9, 10, 5, 11, 12, 65, 66, 67, 68, 69, 70, 71, 72, 73, 74, 75, 76, 77, 78, 79, 80, 81, 82, 83, 84, 85, 86, 87, 88, 89, 90, 91, 92, 93, 94, 95] (by decide +kernel) (by decide +kernel)
set_option maxRecDepth 20000 in
theorem gX8_isWord_X8_blanks : GoodIn wsX8_isWord (wsV RX8 101 RX8 yX8_blanks wsX8_blanks) := goodIn_app (goodIn_of _ (by decide +kernel)) ggX8_isWord_X8_blanks
set_option maxRecDepth 20000 in
theorem ggX8_isWord_J0_length_8abf5 : GoodIn wsX8_isWord wsJ0_length_8abf5 := goodIn_r _ [17, 18, 19, 20, 21, 16, 22, 23, 24] (by decide +kernel) (by decide +kernel)
set_option maxRecDepth 20000 in
theorem gX8_isWord_J0_length_8abf5 : GoodIn wsX8_isWord (wsV RX8 104 RJ0 yJ0_length_8abf5 wsJ0_length_8abf5) := goodIn_app (goodIn_of _ (by decide +kernel)) ggX8_isWord_J0_length_8abf5
set_option maxRecDepth 20000 in
theorem ggX8_isWord_X8_byteAt : GoodIn wsX8_isWord wsX8_byteAt := goodIn_r _ [11, 7, 12, 65, 66, 67, 68, 69, 70, 71, 72, 73, 74, 75, 76, 77, 78, 79, 80, 81, 82, 83, 84, 85, 86, 87, 88, 89, 90, 91, 92, 93, 94, 95] (by decide +kernel) (by decide +kernel)
set_option maxRecDepth 20000 in
theorem gX8_isWord_X8_byteAt : GoodIn wsX8_isWord (wsV RX8 94 RX8 yX8_byteAt wsX8_byteAt) := goodIn_app (goodIn_of _ (by decide +kernel)) ggX8_isWord_X8_byteAt
set_option maxRecDepth 20000 in
theorem ggX8_isWord_J0_charAt_5068e : GoodIn wsX8_isWord wsJ0_charAt_5068e := goodIn_r _ [28, 18, 29, 30, 31, 16, 32, 23, 24, 33, 34, 35, 36, 37, 38, 39, 40, 41, 42, 43, 44, 45, 46, 47, 48, 49, 50, 51, 52, 53, 54, 55, 56, 57, 58, 59, 60, 61] (by decide +kernel) (by decide +kernel)
set_option maxRecDepth 20000 in
theorem gX8_isWord_J0_charAt_5068e : GoodIn wsX8_isWord (wsV RX8 110 RJ0 yJ0_charAt_5068e wsJ0_charAt_5068e) := goodIn_app (goodIn_of _ (by decide +kernel)) ggX8_isWord_J0_charAt_5068e
set_option maxRecDepth 20000 in
theorem ggX8_isWord_X8_isSmall : GoodIn wsX8_isWord wsX8_isSmall := goodIn_r _ [64] (by decide +kernel) (by decide +kernel)
set_option maxRecDepth 20000 in
theorem gX8_isWord_X8_isSmall : GoodIn wsX8_isWord (va_wsS RX8 114 yX8_isSmall wsX8_isSmall) := goodIn_app (goodIn_of _ (by decide +kernel)) ggX8_isWord_X8_isSmall
theorem dX8_isWord_0 : decode cX8_isWord 0 = .ok (.aload_n 0, 1) := by decide +kernel
theorem dX8_isWord_1 : decode cX8_isWord 1 = .ok (.invokevirtual 101, 3) := by decide +kernel
theorem dX8_isWord_4 : decode cX8_isWord 4 = .ok (.iconst 0, 1) := by decide +kernel
theorem dX8_isWord_5 : decode cX8_isWord 5 = .ok (.istore_n 2, 1) := by decide +kernel
theorem dX8_isWord_6 : decode cX8_isWord 6 = .ok (.iload_n 2, 1) := by decide +kernel
theorem dX8_isWord_7 : decode cX8_isWord 7 = .ok (.aload_n 1, 1) := by decide +kernel
theorem dX8_isWord_8 : decode cX8_isWord 8 = .ok (.invokevirtual 104, 3) := by decide +kernel
theorem dX8_isWord_11 : decode cX8_isWord 11 = .ok (.if_icmp .ge 29, 3) := by decide +kernel
theorem dX8_isWord_14 : decode cX8_isWord 14 = .ok (.aload_n 0, 1) := by decide +kernel
theorem dX8_isWord_15 : decode cX8_isWord 15 = .ok (.aload_n 0, 1) := by decide +kernel
theorem dX8_isWord_16 : decode cX8_isWord 16 = .ok (.getfield 91, 3) := by decide +kernel
theorem dX8_isWord_19 : decode cX8_isWord 19 = .ok (.iload_n 2, 1) := by decide +kernel
theorem dX8_isWord_20 : decode cX8_isWord 20 = .ok (.iadd, 1) := by decide +kernel
theorem dX8_isWord_21 : decode cX8_isWord 21 = .ok (.invokevirtual 94, 3) := by decide +kernel
theorem dX8_isWord_24 : decode cX8_isWord 24 = .ok (.aload_n 1, 1) := by decide +kernel
theorem dX8_isWord_25 : decode cX8_isWord 25 = .ok (.iload_n 2, 1) := by decide +kernel
theorem dX8_isWord_26 : decode cX8_isWord 26 = .ok (.invokevirtual 110, 3) := by decide +kernel
theorem dX8_isWord_29 : decode cX8_isWord 29 = .ok (.if_icmp .eq 5, 3) := by decide +kernel
theorem dX8_isWord_32 : decode cX8_isWord 32 = .ok (.iconst 0, 1) := by decide +kernel
theorem dX8_isWord_33 : decode cX8_isWord 33 = .ok (.ireturn, 1) := by decide +kernel
theorem dX8_isWord_34 : decode cX8_isWord 34 = .ok (.iinc 2 1, 3) := by decide +kernel
theorem dX8_isWord_37 : decode cX8_isWord 37 = .ok (.goto (-31), 3) := by decide +kernel
theorem dX8_isWord_40 : decode cX8_isWord 40 = .ok (.aload_n 0, 1) := by decide +kernel
theorem dX8_isWord_41 : decode cX8_isWord 41 = .ok (.aload_n 0, 1) := by decide +kernel
theorem dX8_isWord_42 : decode cX8_isWord 42 = .ok (.getfield 91, 3) := by decide +kernel
theorem dX8_isWord_45 : decode cX8_isWord 45 = .ok (.aload_n 1, 1) := by decide +kernel
theorem dX8_isWord_46 : decode cX8_isWord 46 = .ok (.invokevirtual 104, 3) := by decide +kernel
theorem dX8_isWord_49 : decode cX8_isWord 49 = .ok (.iadd, 1) := by decide +kernel
theorem dX8_isWord_50 : decode cX8_isWord 50 = .ok (.invokevirtual 94, 3) := by decide +kernel
theorem dX8_isWord_53 : decode cX8_isWord 53 = .ok (.invokestatic 114, 3) := by decide +kernel
theorem dX8_isWord_56 : decode cX8_isWord 56 = .ok (.ifCond .ne 7, 3) := by decide +kernel
theorem dX8_isWord_59 : decode cX8_isWord 59 = .ok (.iconst 1, 1) := by decide +kernel
theorem dX8_isWord_60 : decode cX8_isWord 60 = .ok (.goto 4, 3) := by decide +kernel
theorem dX8_isWord_63 : decode cX8_isWord 63 = .ok (.iconst 0, 1) := by decide +kernel
theorem dX8_isWord_64 : decode cX8_isWord 64 = .ok (.ireturn, 1) := by decide +kernel
set_option maxRecDepth 20000 in
theorem ggX8_need_X8_isWord : GoodIn wsX8_need wsX8_isWord := goodIn_r _ [7, 2, 8, 9, 10, 6, 11, 12, 13, 14, 15, 16, 17, 18, 19, 20, 21, 22, 23, 24, 25, 26, 27, 28, 29, 30, 31, 32, 33, 34, 35, 36, 37, 38, 39, 40, 41, 42, 43, 44, 45, 46, 47, 48, 49, 50, 51, 52, 53, 54, 55, 56, 57, 58, 59, 60, 61, 62, 63, 64, 65, 66, 67, 68, 69, 75, 76, 77, 78, 79, 80, 81, 82, 83, 84, 85, 86, 87, 88, 89, 90, 91, 92, 93, 94, 95, 96, 97, 98, 99, 100, 101, 102, 103, 104, 105] (by decide +kernel) (by decide +kernel)
set_option maxRecDepth 20000 in
theorem gX8_need_X8_isWord : GoodIn wsX8_need (wsV RX8 118 RX8 yX8_isWord wsX8_isWord) := goodIn_app (goodIn_of _ (by decide +kernel)) ggX8_need_X8_isWord
set_option maxRecDepth 20000 in
theorem ggX8_need_J0_length_8abf5 : GoodIn wsX8_need wsJ0_length_8abf5 := goodIn_r _ [22, 23, 24, 25, 26, 21, 27, 28, 29] (by decide +kernel) (by decide +kernel)
set_option maxRecDepth 20000 in
theorem gX8_need_J0_length_8abf5 : GoodIn wsX8_need (wsV RX8 104 RJ0 yJ0_length_8abf5 wsJ0_length_8abf5) := goodIn_app (goodIn_of _ (by decide +kernel)) ggX8_need_J0_length_8abf5
set_option maxRecDepth 20000 in
theorem ggX8_need_X8_wrong : GoodIn wsX8_need wsX8_wrong := goodIn_r _ [73, 1, 74, 75, 76, 77, 78, 79, 80, 81, 82, 83, 84, 85, 86, 87, 88, 89, 90, 91, 92, 93, 94, 95, 96, 97, 98, 99, 100, 101, 102, 103, 104, 105] (by decide +kernel) (by decide +kernel)
set_option maxRecDepth 20000 in
theorem gX8_need_X8_wrong : GoodIn wsX8_need (wsV RX8 122 RX8 yX8_wrong wsX8_wrong) := goodIn_app (goodIn_of _ (by decide +kernel)) ggX8_need_X8_wrong
theorem dX8_need_0 : decode cX8_need 0 = .ok (.aload_n 0, 1) := by decide +kernel
theorem dX8_need_1 : decode cX8_need 1 = .ok (.getfield 98, 3) := by decide +kernel
theorem dX8_need_4 : decode cX8_need 4 = .ok (.ifCond .le 4, 3) := by decide +kernel
theorem dX8_need_7 : decode cX8_need 7 = .ok (.return_, 1) := by decide +kernel
theorem dX8_need_8 : decode cX8_need 8 = .ok (.aload_n 0, 1) := by decide +kernel
theorem dX8_need_9 : decode cX8_need 9 = .ok (.aload_n 1, 1) := by decide +kernel
theorem dX8_need_10 : decode cX8_need 10 = .ok (.invokevirtual 118, 3) := by decide +kernel
theorem dX8_need_13 : decode cX8_need 13 = .ok (.ifCond .eq 19, 3) := by decide +kernel
theorem dX8_need_16 : decode cX8_need 16 = .ok (.aload_n 0, 1) := by decide +kernel
theorem dX8_need_17 : decode cX8_need 17 = .ok (.dup, 1) := by decide +kernel
theorem dX8_need_18 : decode cX8_need 18 = .ok (.getfield 91, 3) := by decide +kernel
theorem dX8_need_21 : decode cX8_need 21 = .ok (.aload_n 1, 1) := by decide +kernel
theorem dX8_need_22 : decode cX8_need 22 = .ok (.invokevirtual 104, 3) := by decide +kernel
theorem dX8_need_25 : decode cX8_need 25 = .ok (.iadd, 1) := by decide +kernel
theorem dX8_need_26 : decode cX8_need 26 = .ok (.putfield 91, 3) := by decide +kernel
theorem dX8_need_29 : decode cX8_need 29 = .ok (.goto 12, 3) := by decide +kernel
theorem dX8_need_32 : decode cX8_need 32 = .ok (.aload_n 0, 1) := by decide +kernel
theorem dX8_need_33 : decode cX8_need 33 = .ok (.iconst 1, 1) := by decide +kernel
theorem dX8_need_34 : decode cX8_need 34 = .ok (.aload_n 0, 1) := by decide +kernel
theorem dX8_need_35 : decode cX8_need 35 = .ok (.getfield 91, 3) := by decide +kernel
theorem dX8_need_38 : decode cX8_need 38 = .ok (.invokevirtual 122, 3) := by decide +kernel
theorem dX8_need_41 : decode cX8_need 41 = .ok (.return_, 1) := by decide +kernel
set_option maxRecDepth 20000 in
theorem ggX8_sign_X8_blanks : GoodIn wsX8_sign wsX8_blanks := goodIn_r _ [8, 2, 3, 9, 10, 11, 7, 12, 13, 19, 20, 21, 22, 23, 24, 25, 26, 27, 28, 29, 30, 31, 32, 33, 34, 35, 36, 37, 38, 39, 40, 41, 42, 43, 44, 45, 46, 47, 48, 49] (by decide +kernel) (by decide +kernel)
set_option maxRecDepth 20000 in
theorem gX8_sign_X8_blanks : GoodIn wsX8_sign (wsV RX8 101 RX8 yX8_blanks wsX8_blanks) := goodIn_app (goodIn_of _ (by decide +kernel)) ggX8_sign_X8_blanks
set_option maxRecDepth 20000 in
theorem ggX8_sign_X8_byteAt : GoodIn wsX8_sign wsX8_byteAt := goodIn_r _ [12, 3, 13, 19, 20, 21, 22, 23, 24, 25, 26, 27, 28, 29, 30, 31, 32, 33, 34, 35, 36, 37, 38, 39, 40, 41, 42, 43, 44, 45, 46, 47, 48, 49] (by decide +kernel) (by decide +kernel)
set_option maxRecDepth 20000 in
theorem gX8_sign_X8_byteAt : GoodIn wsX8_sign (wsV RX8 94 RX8 yX8_byteAt wsX8_byteAt) := goodIn_app (goodIn_of _ (by decide +kernel)) ggX8_sign_X8_byteAt
set_option maxRecDepth 20000 in
theorem ggX8_sign_X8_wrong : GoodIn wsX8_sign wsX8_wrong := goodIn_r _ [17, 1, 18, 19, 20, 21, 22, 23, 24, 25, 26, 27, 28, 29, 30, 31, 32, 33, 34, 35, 36, 37, 38, 39, 40, 41, 42, 43, 44, 45, 46, 47, 48, 49] (by decide +kernel) (by decide +kernel)
set_option maxRecDepth 20000 in
theorem gX8_sign_X8_wrong : GoodIn wsX8_sign (wsV RX8 122 RX8 yX8_wrong wsX8_wrong) := goodIn_app (goodIn_of _ (by decide +kernel)) ggX8_sign_X8_wrong
theorem dX8_sign_0 : decode cX8_sign 0 = .ok (.aload_n 0, 1) := by decide +kernel
theorem dX8_sign_1 : decode cX8_sign 1 = .ok (.getfield 98, 3) := by decide +kernel
theorem dX8_sign_4 : decode cX8_sign 4 = .ok (.ifCond .le 4, 3) := by decide +kernel
theorem dX8_sign_7 : decode cX8_sign 7 = .ok (.return_, 1) := by decide +kernel
theorem dX8_sign_8 : decode cX8_sign 8 = .ok (.aload_n 0, 1) := by decide +kernel
theorem dX8_sign_9 : decode cX8_sign 9 = .ok (.invokevirtual 101, 3) := by decide +kernel
theorem dX8_sign_12 : decode cX8_sign 12 = .ok (.aload_n 0, 1) := by decide +kernel
theorem dX8_sign_13 : decode cX8_sign 13 = .ok (.getfield 91, 3) := by decide +kernel
theorem dX8_sign_16 : decode cX8_sign 16 = .ok (.aload_n 0, 1) := by decide +kernel
theorem dX8_sign_17 : decode cX8_sign 17 = .ok (.getfield 88, 3) := by decide +kernel
theorem dX8_sign_20 : decode cX8_sign 20 = .ok (.if_icmp .ge 28, 3) := by decide +kernel
theorem dX8_sign_23 : decode cX8_sign 23 = .ok (.aload_n 0, 1) := by decide +kernel
theorem dX8_sign_24 : decode cX8_sign 24 = .ok (.aload_n 0, 1) := by decide +kernel
theorem dX8_sign_25 : decode cX8_sign 25 = .ok (.getfield 91, 3) := by decide +kernel
theorem dX8_sign_28 : decode cX8_sign 28 = .ok (.invokevirtual 94, 3) := by decide +kernel
theorem dX8_sign_31 : decode cX8_sign 31 = .ok (.iload_n 1, 1) := by decide +kernel
theorem dX8_sign_32 : decode cX8_sign 32 = .ok (.if_icmp .ne 16, 3) := by decide +kernel
theorem dX8_sign_35 : decode cX8_sign 35 = .ok (.aload_n 0, 1) := by decide +kernel
theorem dX8_sign_36 : decode cX8_sign 36 = .ok (.dup, 1) := by decide +kernel
theorem dX8_sign_37 : decode cX8_sign 37 = .ok (.getfield 91, 3) := by decide +kernel
theorem dX8_sign_40 : decode cX8_sign 40 = .ok (.iconst 1, 1) := by decide +kernel
theorem dX8_sign_41 : decode cX8_sign 41 = .ok (.iadd, 1) := by decide +kernel
theorem dX8_sign_42 : decode cX8_sign 42 = .ok (.putfield 91, 3) := by decide +kernel
theorem dX8_sign_45 : decode cX8_sign 45 = .ok (.goto 12, 3) := by decide +kernel
theorem dX8_sign_48 : decode cX8_sign 48 = .ok (.aload_n 0, 1) := by decide +kernel
theorem dX8_sign_49 : decode cX8_sign 49 = .ok (.iconst 1, 1) := by decide +kernel
theorem dX8_sign_50 : decode cX8_sign 50 = .ok (.aload_n 0, 1) := by decide +kernel
theorem dX8_sign_51 : decode cX8_sign 51 = .ok (.getfield 91, 3) := by decide +kernel
theorem dX8_sign_54 : decode cX8_sign 54 = .ok (.invokevirtual 122, 3) := by decide +kernel
theorem dX8_sign_57 : decode cX8_sign 57 = .ok (.return_, 1) := by decide +kernel
set_option maxRecDepth 20000 in
theorem ggX8_number_X8_blanks : GoodIn wsX8_number wsX8_blanks := goodIn_r _ [7, 2, 8, 9, 10, 11, 6, 12, 13, 22, 23, 24, 25, 26, 27, 28, 29, 30, 31, 32, 33, 34, 35, 36, 37, 38, 39, 40, 41, 42, 43, 44, 45, 46, 47, 48, 49, 50, 51, 52] (by decide +kernel) (by decide +kernel)
set_option maxRecDepth 20000 in
theorem gX8_number_X8_blanks : GoodIn wsX8_number (wsV RX8 101 RX8 yX8_blanks wsX8_blanks) := goodIn_app (goodIn_of _ (by decide +kernel)) ggX8_number_X8_blanks
set_option maxRecDepth 20000 in
theorem ggX8_number_X8_byteAt : GoodIn wsX8_number wsX8_byteAt := goodIn_r _ [12, 8, 13, 22, 23, 24, 25, 26, 27, 28, 29, 30, 31, 32, 33, 34, 35, 36, 37, 38, 39, 40, 41, 42, 43, 44, 45, 46, 47, 48, 49, 50, 51, 52] (by decide +kernel) (by decide +kernel)
set_option maxRecDepth 20000 in
theorem gX8_number_X8_byteAt : GoodIn wsX8_number (wsV RX8 94 RX8 yX8_byteAt wsX8_byteAt) := goodIn_app (goodIn_of _ (by decide +kernel)) ggX8_number_X8_byteAt
set_option maxRecDepth 20000 in
theorem ggX8_number_X8_isDigit : GoodIn wsX8_number wsX8_isDigit := goodIn_r _ [16] (by decide +kernel) (by decide +kernel)
set_option maxRecDepth 20000 in
theorem gX8_number_X8_isDigit : GoodIn wsX8_number (va_wsS RX8 126 yX8_isDigit wsX8_isDigit) := goodIn_app (goodIn_of _ (by decide +kernel)) ggX8_number_X8_isDigit
set_option maxRecDepth 20000 in
theorem ggX8_number_X8_wrong : GoodIn wsX8_number wsX8_wrong := goodIn_r _ [20, 1, 21, 22, 23, 24, 25, 26, 27, 28, 29, 30, 31, 32, 33, 34, 35, 36, 37, 38, 39, 40, 41, 42, 43, 44, 45, 46, 47, 48, 49, 50, 51, 52] (by decide +kernel) (by decide +kernel)
set_option maxRecDepth 20000 in
theorem gX8_number_X8_wrong : GoodIn wsX8_number (wsV RX8 122 RX8 yX8_wrong wsX8_wrong) := goodIn_app (goodIn_of _ (by decide +kernel)) ggX8_number_X8_wrong
theorem dX8_number_0 : decode cX8_number 0 = .ok (.aload_n 0, 1) := by decide +kernel
theorem dX8_number_1 : decode cX8_number 1 = .ok (.getfield 98, 3) := by decide +kernel
theorem dX8_number_4 : decode cX8_number 4 = .ok (.ifCond .le 5, 3) := by decide +kernel
theorem dX8_number_7 : decode cX8_number 7 = .ok (.iconst 0, 1) := by decide +kernel
theorem dX8_number_8 : decode cX8_number 8 = .ok (.ireturn, 1) := by decide +kernel
theorem dX8_number_9 : decode cX8_number 9 = .ok (.aload_n 0, 1) := by decide +kernel
theorem dX8_number_10 : decode cX8_number 10 = .ok (.invokevirtual 101, 3) := by decide +kernel
theorem dX8_number_13 : decode cX8_number 13 = .ok (.aload_n 0, 1) := by decide +kernel
theorem dX8_number_14 : decode cX8_number 14 = .ok (.getfield 91, 3) := by decide +kernel
theorem dX8_number_17 : decode cX8_number 17 = .ok (.istore_n 2, 1) := by decide +kernel
theorem dX8_number_18 : decode cX8_number 18 = .ok (.aload_n 0, 1) := by decide +kernel
theorem dX8_number_19 : decode cX8_number 19 = .ok (.aload_n 0, 1) := by decide +kernel
theorem dX8_number_20 : decode cX8_number 20 = .ok (.getfield 91, 3) := by decide +kernel
theorem dX8_number_23 : decode cX8_number 23 = .ok (.invokevirtual 94, 3) := by decide +kernel
theorem dX8_number_26 : decode cX8_number 26 = .ok (.invokestatic 126, 3) := by decide +kernel
theorem dX8_number_29 : decode cX8_number 29 = .ok (.ifCond .ne 14, 3) := by decide +kernel
theorem dX8_number_32 : decode cX8_number 32 = .ok (.aload_n 0, 1) := by decide +kernel
theorem dX8_number_33 : decode cX8_number 33 = .ok (.iconst 1, 1) := by decide +kernel
theorem dX8_number_34 : decode cX8_number 34 = .ok (.aload_n 0, 1) := by decide +kernel
theorem dX8_number_35 : decode cX8_number 35 = .ok (.getfield 91, 3) := by decide +kernel
theorem dX8_number_38 : decode cX8_number 38 = .ok (.invokevirtual 122, 3) := by decide +kernel
theorem dX8_number_41 : decode cX8_number 41 = .ok (.iconst 0, 1) := by decide +kernel
theorem dX8_number_42 : decode cX8_number 42 = .ok (.ireturn, 1) := by decide +kernel
theorem dX8_number_43 : decode cX8_number 43 = .ok (.iconst 0, 1) := by decide +kernel
theorem dX8_number_44 : decode cX8_number 44 = .ok (.istore_n 3, 1) := by decide +kernel
theorem dX8_number_45 : decode cX8_number 45 = .ok (.aload_n 0, 1) := by decide +kernel
theorem dX8_number_46 : decode cX8_number 46 = .ok (.aload_n 0, 1) := by decide +kernel
theorem dX8_number_47 : decode cX8_number 47 = .ok (.getfield 91, 3) := by decide +kernel
theorem dX8_number_50 : decode cX8_number 50 = .ok (.invokevirtual 94, 3) := by decide +kernel
theorem dX8_number_53 : decode cX8_number 53 = .ok (.invokestatic 126, 3) := by decide +kernel
theorem dX8_number_56 : decode cX8_number 56 = .ok (.ifCond .eq 44, 3) := by decide +kernel
theorem dX8_number_59 : decode cX8_number 59 = .ok (.iload_n 3, 1) := by decide +kernel
theorem dX8_number_60 : decode cX8_number 60 = .ok (.sipush 10000, 3) := by decide +kernel
theorem dX8_number_63 : decode cX8_number 63 = .ok (.if_icmp .le 7, 3) := by decide +kernel
theorem dX8_number_66 : decode cX8_number 66 = .ok (.iload_n 3, 1) := by decide +kernel
theorem dX8_number_67 : decode cX8_number 67 = .ok (.goto 19, 3) := by decide +kernel
theorem dX8_number_70 : decode cX8_number 70 = .ok (.bipush 10, 2) := by decide +kernel
theorem dX8_number_72 : decode cX8_number 72 = .ok (.iload_n 3, 1) := by decide +kernel
theorem dX8_number_73 : decode cX8_number 73 = .ok (.imul, 1) := by decide +kernel
theorem dX8_number_74 : decode cX8_number 74 = .ok (.aload_n 0, 1) := by decide +kernel
theorem dX8_number_75 : decode cX8_number 75 = .ok (.aload_n 0, 1) := by decide +kernel
theorem dX8_number_76 : decode cX8_number 76 = .ok (.getfield 91, 3) := by decide +kernel
theorem dX8_number_79 : decode cX8_number 79 = .ok (.invokevirtual 94, 3) := by decide +kernel
theorem dX8_number_82 : decode cX8_number 82 = .ok (.iadd, 1) := by decide +kernel
theorem dX8_number_83 : decode cX8_number 83 = .ok (.bipush 48, 2) := by decide +kernel
theorem dX8_number_85 : decode cX8_number 85 = .ok (.isub, 1) := by decide +kernel
theorem dX8_number_86 : decode cX8_number 86 = .ok (.istore_n 3, 1) := by decide +kernel
theorem dX8_number_87 : decode cX8_number 87 = .ok (.aload_n 0, 1) := by decide +kernel
theorem dX8_number_88 : decode cX8_number 88 = .ok (.dup, 1) := by decide +kernel
theorem dX8_number_89 : decode cX8_number 89 = .ok (.getfield 91, 3) := by decide +kernel
theorem dX8_number_92 : decode cX8_number 92 = .ok (.iconst 1, 1) := by decide +kernel
theorem dX8_number_93 : decode cX8_number 93 = .ok (.iadd, 1) := by decide +kernel
theorem dX8_number_94 : decode cX8_number 94 = .ok (.putfield 91, 3) := by decide +kernel
theorem dX8_number_97 : decode cX8_number 97 = .ok (.goto (-52), 3) := by decide +kernel
theorem dX8_number_100 : decode cX8_number 100 = .ok (.iload_n 3, 1) := by decide +kernel
theorem dX8_number_101 : decode cX8_number 101 = .ok (.iload_n 1, 1) := by decide +kernel
theorem dX8_number_102 : decode cX8_number 102 = .ok (.if_icmp .lt 10, 3) := by decide +kernel
theorem dX8_number_105 : decode cX8_number 105 = .ok (.iload_n 3, 1) := by decide +kernel
theorem dX8_number_106 : decode cX8_number 106 = .ok (.sipush 1000, 3) := by decide +kernel
theorem dX8_number_109 : decode cX8_number 109 = .ok (.if_icmp .le 9, 3) := by decide +kernel
theorem dX8_number_112 : decode cX8_number 112 = .ok (.aload_n 0, 1) := by decide +kernel
theorem dX8_number_113 : decode cX8_number 113 = .ok (.iconst 2, 1) := by decide +kernel
theorem dX8_number_114 : decode cX8_number 114 = .ok (.iload_n 2, 1) := by decide +kernel
theorem dX8_number_115 : decode cX8_number 115 = .ok (.invokevirtual 122, 3) := by decide +kernel
theorem dX8_number_118 : decode cX8_number 118 = .ok (.iload_n 3, 1) := by decide +kernel
theorem dX8_number_119 : decode cX8_number 119 = .ok (.ireturn, 1) := by decide +kernel
set_option maxRecDepth 20000 in
theorem ggX8_clause_X8_isWord : GoodIn wsX8_clause wsX8_isWord := goodIn_r _ [6, 7, 8, 9, 10, 5, 11, 12, 13, 14, 15, 16, 17, 18, 19, 20, 21, 22, 23, 24, 25, 26, 27, 28, 29, 30, 31, 32, 33, 34, 35, 36, 37, 38, 39, 40, 41, 42, 43, 44, 45, 46, 47, 48, 49, 50, 51, 52, 53, 54, 55, 56, 57, 58, 59, 60, 61, 62, 63, 64, 65, 66, 67, 68, 69, 91, 92, 93, 94, 95, 96, 97, 98, 99, 100, 101, 102, 103, 104, 105, 106, 107, 108, 109, 110, 111, 112, 113, 114, 115, 116, 117, 118, 119, 120, 121] (by decide +kernel) (by decide +kernel)
set_option maxRecDepth 20000 in
theorem gX8_clause_X8_isWord : GoodIn wsX8_clause (wsV RX8 118 RX8 yX8_isWord wsX8_isWord) := goodIn_app (goodIn_of _ (by decide +kernel)) ggX8_clause_X8_isWord
set_option maxRecDepth 20000 in
theorem ggX8_clause_X8_need : GoodIn wsX8_clause wsX8_need := goodIn_r _ [73, 74, 7, 2, 3, 4, 5, 6, 8, 9, 10, 11, 12, 13, 14, 15, 16, 17, 18, 19, 20, 21, 22, 23, 24, 25, 26, 27, 28, 29, 30, 31, 32, 33, 34, 35, 36, 37, 38, 39, 40, 41, 42, 43, 44, 45, 46, 47, 48, 49, 50, 51, 52, 53, 54, 55, 56, 57, 58, 59, 60, 61, 62, 63, 64, 65, 66, 67, 68, 69, 75, 76, 77, 78, 79, 91, 92, 93, 94, 95, 96, 97, 98, 99, 100, 101, 102, 103, 104, 105, 106, 107, 108, 109, 110, 111, 112, 113, 114, 115, 116, 117, 118, 119, 120, 121] (by decide +kernel) (by decide +kernel)
set_option maxRecDepth 20000 in
theorem gX8_clause_X8_need : GoodIn wsX8_clause (wsV RX8 131 RX8 yX8_need wsX8_need) := goodIn_app (goodIn_of _ (by decide +kernel)) ggX8_clause_X8_need
set_option maxRecDepth 20000 in
theorem ggX8_clause_X8_number : GoodIn wsX8_clause wsX8_number := goodIn_r _ [83, 74, 7, 8, 9, 10, 5, 11, 12, 13, 14, 15, 16, 17, 84, 85, 86, 75, 76, 77, 78, 79, 91, 92, 93, 94, 95, 96, 97, 98, 99, 100, 101, 102, 103, 104, 105, 106, 107, 108, 109, 110, 111, 112, 113, 114, 115, 116, 117, 118, 119, 120, 121] (by decide +kernel) (by decide +kernel)
set_option maxRecDepth 20000 in
theorem gX8_clause_X8_number : GoodIn wsX8_clause (wsV RX8 135 RX8 yX8_number wsX8_number) := goodIn_app (goodIn_of _ (by decide +kernel)) ggX8_clause_X8_number
set_option maxRecDepth 20000 in
theorem ggX8_clause_X8_sign : GoodIn wsX8_clause wsX8_sign := goodIn_r _ [90, 74, 7, 12, 8, 9, 10, 5, 11, 13, 14, 15, 16, 17, 75, 76, 77, 78, 79, 91, 92, 93, 94, 95, 96, 97, 98, 99, 100, 101, 102, 103, 104, 105, 106, 107, 108, 109, 110, 111, 112, 113, 114, 115, 116, 117, 118, 119, 120, 121] (by decide +kernel) (by decide +kernel)
set_option maxRecDepth 20000 in
theorem gX8_clause_X8_sign : GoodIn wsX8_clause (wsV RX8 138 RX8 yX8_sign wsX8_sign) := goodIn_app (goodIn_of _ (by decide +kernel)) ggX8_clause_X8_sign
theorem dX8_clause_0 : decode cX8_clause 0 = .ok (.aload_n 0, 1) := by decide +kernel
theorem dX8_clause_1 : decode cX8_clause 1 = .ok (.ldc 129, 2) := by decide +kernel
theorem dX8_clause_3 : decode cX8_clause 3 = .ok (.invokevirtual 118, 3) := by decide +kernel
theorem dX8_clause_6 : decode cX8_clause 6 = .ok (.ifCond .eq 69, 3) := by decide +kernel
theorem dX8_clause_9 : decode cX8_clause 9 = .ok (.aload_n 0, 1) := by decide +kernel
theorem dX8_clause_10 : decode cX8_clause 10 = .ok (.ldc 129, 2) := by decide +kernel
theorem dX8_clause_12 : decode cX8_clause 12 = .ok (.invokevirtual 131, 3) := by decide +kernel
theorem dX8_clause_15 : decode cX8_clause 15 = .ok (.aload_n 0, 1) := by decide +kernel
theorem dX8_clause_16 : decode cX8_clause 16 = .ok (.iconst 0, 1) := by decide +kernel
theorem dX8_clause_17 : decode cX8_clause 17 = .ok (.invokevirtual 135, 3) := by decide +kernel
theorem dX8_clause_20 : decode cX8_clause 20 = .ok (.istore_n 2, 1) := by decide +kernel
theorem dX8_clause_21 : decode cX8_clause 21 = .ok (.aload_n 0, 1) := by decide +kernel
theorem dX8_clause_22 : decode cX8_clause 22 = .ok (.bipush 47, 2) := by decide +kernel
theorem dX8_clause_24 : decode cX8_clause 24 = .ok (.invokevirtual 138, 3) := by decide +kernel
theorem dX8_clause_27 : decode cX8_clause 27 = .ok (.aload_n 0, 1) := by decide +kernel
theorem dX8_clause_28 : decode cX8_clause 28 = .ok (.iconst 1, 1) := by decide +kernel
theorem dX8_clause_29 : decode cX8_clause 29 = .ok (.invokevirtual 135, 3) := by decide +kernel
theorem dX8_clause_32 : decode cX8_clause 32 = .ok (.istore_n 3, 1) := by decide +kernel
theorem dX8_clause_33 : decode cX8_clause 33 = .ok (.aload_n 0, 1) := by decide +kernel
theorem dX8_clause_34 : decode cX8_clause 34 = .ok (.ldc 142, 2) := by decide +kernel
theorem dX8_clause_36 : decode cX8_clause 36 = .ok (.invokevirtual 131, 3) := by decide +kernel
theorem dX8_clause_39 : decode cX8_clause 39 = .ok (.aload_n 0, 1) := by decide +kernel
theorem dX8_clause_40 : decode cX8_clause 40 = .ok (.iconst 0, 1) := by decide +kernel
theorem dX8_clause_41 : decode cX8_clause 41 = .ok (.invokevirtual 135, 3) := by decide +kernel
theorem dX8_clause_44 : decode cX8_clause 44 = .ok (.istore 4, 2) := by decide +kernel
theorem dX8_clause_46 : decode cX8_clause 46 = .ok (.aload_n 0, 1) := by decide +kernel
theorem dX8_clause_47 : decode cX8_clause 47 = .ok (.getfield 32, 3) := by decide +kernel
theorem dX8_clause_50 : decode cX8_clause 50 = .ok (.iload_n 1, 1) := by decide +kernel
theorem dX8_clause_51 : decode cX8_clause 51 = .ok (.iload_n 2, 1) := by decide +kernel
theorem dX8_clause_52 : decode cX8_clause 52 = .ok (.iastore, 1) := by decide +kernel
theorem dX8_clause_53 : decode cX8_clause 53 = .ok (.aload_n 0, 1) := by decide +kernel
theorem dX8_clause_54 : decode cX8_clause 54 = .ok (.getfield 32, 3) := by decide +kernel
theorem dX8_clause_57 : decode cX8_clause 57 = .ok (.iload_n 1, 1) := by decide +kernel
theorem dX8_clause_58 : decode cX8_clause 58 = .ok (.iconst 1, 1) := by decide +kernel
theorem dX8_clause_59 : decode cX8_clause 59 = .ok (.iadd, 1) := by decide +kernel
theorem dX8_clause_60 : decode cX8_clause 60 = .ok (.iload_n 3, 1) := by decide +kernel
theorem dX8_clause_61 : decode cX8_clause 61 = .ok (.iastore, 1) := by decide +kernel
theorem dX8_clause_62 : decode cX8_clause 62 = .ok (.aload_n 0, 1) := by decide +kernel
theorem dX8_clause_63 : decode cX8_clause 63 = .ok (.getfield 32, 3) := by decide +kernel
theorem dX8_clause_66 : decode cX8_clause 66 = .ok (.iload_n 1, 1) := by decide +kernel
theorem dX8_clause_67 : decode cX8_clause 67 = .ok (.iconst 2, 1) := by decide +kernel
theorem dX8_clause_68 : decode cX8_clause 68 = .ok (.iadd, 1) := by decide +kernel
theorem dX8_clause_69 : decode cX8_clause 69 = .ok (.iload 4, 2) := by decide +kernel
theorem dX8_clause_71 : decode cX8_clause 71 = .ok (.iastore, 1) := by decide +kernel
theorem dX8_clause_72 : decode cX8_clause 72 = .ok (.goto 76, 3) := by decide +kernel
theorem dX8_clause_75 : decode cX8_clause 75 = .ok (.aload_n 0, 1) := by decide +kernel
theorem dX8_clause_76 : decode cX8_clause 76 = .ok (.ldc 144, 2) := by decide +kernel
theorem dX8_clause_78 : decode cX8_clause 78 = .ok (.invokevirtual 118, 3) := by decide +kernel
theorem dX8_clause_81 : decode cX8_clause 81 = .ok (.ifCond .eq 48, 3) := by decide +kernel
theorem dX8_clause_84 : decode cX8_clause 84 = .ok (.aload_n 0, 1) := by decide +kernel
theorem dX8_clause_85 : decode cX8_clause 85 = .ok (.ldc 144, 2) := by decide +kernel
theorem dX8_clause_87 : decode cX8_clause 87 = .ok (.invokevirtual 131, 3) := by decide +kernel
theorem dX8_clause_90 : decode cX8_clause 90 = .ok (.aload_n 0, 1) := by decide +kernel
theorem dX8_clause_91 : decode cX8_clause 91 = .ok (.iconst 0, 1) := by decide +kernel
theorem dX8_clause_92 : decode cX8_clause 92 = .ok (.invokevirtual 135, 3) := by decide +kernel
theorem dX8_clause_95 : decode cX8_clause 95 = .ok (.istore_n 2, 1) := by decide +kernel
theorem dX8_clause_96 : decode cX8_clause 96 = .ok (.aload_n 0, 1) := by decide +kernel
theorem dX8_clause_97 : decode cX8_clause 97 = .ok (.bipush 47, 2) := by decide +kernel
theorem dX8_clause_99 : decode cX8_clause 99 = .ok (.invokevirtual 138, 3) := by decide +kernel
theorem dX8_clause_102 : decode cX8_clause 102 = .ok (.aload_n 0, 1) := by decide +kernel
theorem dX8_clause_103 : decode cX8_clause 103 = .ok (.iconst 1, 1) := by decide +kernel
theorem dX8_clause_104 : decode cX8_clause 104 = .ok (.invokevirtual 135, 3) := by decide +kernel
theorem dX8_clause_107 : decode cX8_clause 107 = .ok (.istore_n 3, 1) := by decide +kernel
theorem dX8_clause_108 : decode cX8_clause 108 = .ok (.aload_n 0, 1) := by decide +kernel
theorem dX8_clause_109 : decode cX8_clause 109 = .ok (.getfield 32, 3) := by decide +kernel
theorem dX8_clause_112 : decode cX8_clause 112 = .ok (.iload_n 1, 1) := by decide +kernel
theorem dX8_clause_113 : decode cX8_clause 113 = .ok (.iconst 3, 1) := by decide +kernel
theorem dX8_clause_114 : decode cX8_clause 114 = .ok (.iadd, 1) := by decide +kernel
theorem dX8_clause_115 : decode cX8_clause 115 = .ok (.iload_n 2, 1) := by decide +kernel
theorem dX8_clause_116 : decode cX8_clause 116 = .ok (.iastore, 1) := by decide +kernel
theorem dX8_clause_117 : decode cX8_clause 117 = .ok (.aload_n 0, 1) := by decide +kernel
theorem dX8_clause_118 : decode cX8_clause 118 = .ok (.getfield 32, 3) := by decide +kernel
theorem dX8_clause_121 : decode cX8_clause 121 = .ok (.iload_n 1, 1) := by decide +kernel
theorem dX8_clause_122 : decode cX8_clause 122 = .ok (.iconst 4, 1) := by decide +kernel
theorem dX8_clause_123 : decode cX8_clause 123 = .ok (.iadd, 1) := by decide +kernel
theorem dX8_clause_124 : decode cX8_clause 124 = .ok (.iload_n 3, 1) := by decide +kernel
theorem dX8_clause_125 : decode cX8_clause 125 = .ok (.iastore, 1) := by decide +kernel
theorem dX8_clause_126 : decode cX8_clause 126 = .ok (.goto 22, 3) := by decide +kernel
theorem dX8_clause_129 : decode cX8_clause 129 = .ok (.aload_n 0, 1) := by decide +kernel
theorem dX8_clause_130 : decode cX8_clause 130 = .ok (.ldc 146, 2) := by decide +kernel
theorem dX8_clause_132 : decode cX8_clause 132 = .ok (.invokevirtual 131, 3) := by decide +kernel
theorem dX8_clause_135 : decode cX8_clause 135 = .ok (.aload_n 0, 1) := by decide +kernel
theorem dX8_clause_136 : decode cX8_clause 136 = .ok (.getfield 32, 3) := by decide +kernel
theorem dX8_clause_139 : decode cX8_clause 139 = .ok (.iload_n 1, 1) := by decide +kernel
theorem dX8_clause_140 : decode cX8_clause 140 = .ok (.iconst 5, 1) := by decide +kernel
theorem dX8_clause_141 : decode cX8_clause 141 = .ok (.iadd, 1) := by decide +kernel
theorem dX8_clause_142 : decode cX8_clause 142 = .ok (.aload_n 0, 1) := by decide +kernel
theorem dX8_clause_143 : decode cX8_clause 143 = .ok (.iconst 0, 1) := by decide +kernel
theorem dX8_clause_144 : decode cX8_clause 144 = .ok (.invokevirtual 135, 3) := by decide +kernel
theorem dX8_clause_147 : decode cX8_clause 147 = .ok (.iastore, 1) := by decide +kernel
theorem dX8_clause_148 : decode cX8_clause 148 = .ok (.aload_n 0, 1) := by decide +kernel
theorem dX8_clause_149 : decode cX8_clause 149 = .ok (.bipush 59, 2) := by decide +kernel
theorem dX8_clause_151 : decode cX8_clause 151 = .ok (.invokevirtual 138, 3) := by decide +kernel
theorem dX8_clause_154 : decode cX8_clause 154 = .ok (.return_, 1) := by decide +kernel
set_option maxRecDepth 20000 in
theorem ggX8_custom_X8_bad : GoodIn wsX8_custom wsX8_bad := goodIn_r _ [14, 1, 103, 104, 105, 106, 107, 108, 109, 110, 111, 112, 113, 114, 115, 116, 117, 118, 119, 120, 121, 122, 123, 124, 125, 126, 127, 128, 129, 130, 131, 132, 133] (by decide +kernel) (by decide +kernel)
set_option maxRecDepth 20000 in
theorem gX8_custom_X8_bad : GoodIn wsX8_custom (wsV RX8 78 RX8 yX8_bad wsX8_bad) := goodIn_app (goodIn_of _ (by decide +kernel)) ggX8_custom_X8_bad
set_option maxRecDepth 20000 in
theorem ggX8_custom_X8_blanks : GoodIn wsX8_custom wsX8_blanks := goodIn_r _ [18, 5, 4, 19, 20, 21, 13, 22, 23, 103, 104, 105, 106, 107, 108, 109, 110, 111, 112, 113, 114, 115, 116, 117, 118, 119, 120, 121, 122, 123, 124, 125, 126, 127, 128, 129, 130, 131, 132, 133] (by decide +kernel) (by decide +kernel)
set_option maxRecDepth 20000 in
theorem gX8_custom_X8_blanks : GoodIn wsX8_custom (wsV RX8 101 RX8 yX8_blanks wsX8_blanks) := goodIn_app (goodIn_of _ (by decide +kernel)) ggX8_custom_X8_blanks
set_option maxRecDepth 20000 in
theorem ggX8_custom_X8_isWord : GoodIn wsX8_custom wsX8_isWord := goodIn_r _ [27, 5, 15, 16, 17, 13, 18, 4, 19, 20, 21, 22, 23, 28, 29, 30, 31, 32, 33, 34, 35, 36, 37, 38, 39, 40, 41, 42, 43, 44, 45, 46, 47, 48, 49, 50, 51, 52, 53, 54, 55, 56, 57, 58, 59, 60, 61, 62, 63, 64, 65, 66, 67, 68, 69, 70, 71, 72, 73, 74, 75, 76, 77, 78, 79, 103, 104, 105, 106, 107, 108, 109, 110, 111, 112, 113, 114, 115, 116, 117, 118, 119, 120, 121, 122, 123, 124, 125, 126, 127, 128, 129, 130, 131, 132, 133] (by decide +kernel) (by decide +kernel)
set_option maxRecDepth 20000 in
theorem gX8_custom_X8_isWord : GoodIn wsX8_custom (wsV RX8 118 RX8 yX8_isWord wsX8_isWord) := goodIn_app (goodIn_of _ (by decide +kernel)) ggX8_custom_X8_isWord
set_option maxRecDepth 20000 in
theorem ggX8_custom_X8_wrong : GoodIn wsX8_custom wsX8_wrong := goodIn_r _ [83, 6, 7, 103, 104, 105, 106, 107, 108, 109, 110, 111, 112, 113, 114, 115, 116, 117, 118, 119, 120, 121, 122, 123, 124, 125, 126, 127, 128, 129, 130, 131, 132, 133] (by decide +kernel) (by decide +kernel)
set_option maxRecDepth 20000 in
theorem gX8_custom_X8_wrong : GoodIn wsX8_custom (wsV RX8 122 RX8 yX8_wrong wsX8_wrong) := goodIn_app (goodIn_of _ (by decide +kernel)) ggX8_custom_X8_wrong
set_option maxRecDepth 20000 in
theorem ggX8_custom_X8_clause : GoodIn wsX8_custom wsX8_clause := goodIn_r _ [87, 8, 24, 25, 26, 13, 27, 5, 15, 16, 17, 18, 4, 19, 20, 21, 22, 23, 28, 29, 30, 31, 32, 33, 34, 35, 36, 37, 38, 39, 40, 41, 42, 43, 44, 45, 46, 47, 48, 49, 50, 51, 52, 53, 54, 55, 56, 57, 58, 59, 60, 61, 62, 63, 64, 65, 66, 67, 68, 69, 70, 71, 72, 73, 74, 75, 76, 77, 78, 79, 88, 89, 90, 91, 6, 80, 81, 82, 83, 7, 92, 93, 94, 95, 96, 97, 98, 99, 100, 101, 102, 103, 104, 105, 106, 107, 108, 109, 110, 111, 112, 113, 114, 115, 116, 117, 118, 119, 120, 121, 122, 123, 124, 125, 126, 127, 128, 129, 130, 131, 132, 133] (by decide +kernel) (by decide +kernel)
set_option maxRecDepth 20000 in
theorem gX8_custom_X8_clause : GoodIn wsX8_custom (wsV RX8 151 RX8 yX8_clause wsX8_clause) := goodIn_app (goodIn_of _ (by decide +kernel)) ggX8_custom_X8_clause
theorem dX8_custom_0 : decode cX8_custom 0 = .ok (.aload_n 0, 1) := by decide +kernel
theorem dX8_custom_1 : decode cX8_custom 1 = .ok (.iconst 0, 1) := by decide +kernel
theorem dX8_custom_2 : decode cX8_custom 2 = .ok (.putfield 74, 3) := by decide +kernel
theorem dX8_custom_5 : decode cX8_custom 5 = .ok (.aload_n 0, 1) := by decide +kernel
theorem dX8_custom_6 : decode cX8_custom 6 = .ok (.iload_n 1, 1) := by decide +kernel
theorem dX8_custom_7 : decode cX8_custom 7 = .ok (.ifCond .lt 22, 3) := by decide +kernel
theorem dX8_custom_10 : decode cX8_custom 10 = .ok (.iload_n 1, 1) := by decide +kernel
theorem dX8_custom_11 : decode cX8_custom 11 = .ok (.aload_n 0, 1) := by decide +kernel
theorem dX8_custom_12 : decode cX8_custom 12 = .ok (.getfield 85, 3) := by decide +kernel
theorem dX8_custom_15 : decode cX8_custom 15 = .ok (.if_icmp .gt 14, 3) := by decide +kernel
theorem dX8_custom_18 : decode cX8_custom 18 = .ok (.iload_n 2, 1) := by decide +kernel
theorem dX8_custom_19 : decode cX8_custom 19 = .ok (.ifCond .lt 10, 3) := by decide +kernel
theorem dX8_custom_22 : decode cX8_custom 22 = .ok (.iload_n 2, 1) := by decide +kernel
theorem dX8_custom_23 : decode cX8_custom 23 = .ok (.sipush 1000, 3) := by decide +kernel
theorem dX8_custom_26 : decode cX8_custom 26 = .ok (.if_icmp .le 7, 3) := by decide +kernel
theorem dX8_custom_29 : decode cX8_custom 29 = .ok (.iconst 1, 1) := by decide +kernel
theorem dX8_custom_30 : decode cX8_custom 30 = .ok (.goto 4, 3) := by decide +kernel
theorem dX8_custom_33 : decode cX8_custom 33 = .ok (.iconst 0, 1) := by decide +kernel
theorem dX8_custom_34 : decode cX8_custom 34 = .ok (.iconst 1, 1) := by decide +kernel
theorem dX8_custom_35 : decode cX8_custom 35 = .ok (.invokevirtual 78, 3) := by decide +kernel
theorem dX8_custom_38 : decode cX8_custom 38 = .ok (.ifCond .ne 25, 3) := by decide +kernel
theorem dX8_custom_41 : decode cX8_custom 41 = .ok (.aload_n 0, 1) := by decide +kernel
theorem dX8_custom_42 : decode cX8_custom 42 = .ok (.aload_n 0, 1) := by decide +kernel
theorem dX8_custom_43 : decode cX8_custom 43 = .ok (.getfield 148, 3) := by decide +kernel
theorem dX8_custom_46 : decode cX8_custom 46 = .ok (.bipush 20, 2) := by decide +kernel
theorem dX8_custom_48 : decode cX8_custom 48 = .ok (.if_icmp .ne 7, 3) := by decide +kernel
theorem dX8_custom_51 : decode cX8_custom 51 = .ok (.iconst 1, 1) := by decide +kernel
theorem dX8_custom_52 : decode cX8_custom 52 = .ok (.goto 4, 3) := by decide +kernel
theorem dX8_custom_55 : decode cX8_custom 55 = .ok (.iconst 0, 1) := by decide +kernel
theorem dX8_custom_56 : decode cX8_custom 56 = .ok (.iconst 2, 1) := by decide +kernel
theorem dX8_custom_57 : decode cX8_custom 57 = .ok (.invokevirtual 78, 3) := by decide +kernel
theorem dX8_custom_60 : decode cX8_custom 60 = .ok (.ifCond .eq 5, 3) := by decide +kernel
theorem dX8_custom_63 : decode cX8_custom 63 = .ok (.iconst 0, 1) := by decide +kernel
theorem dX8_custom_64 : decode cX8_custom 64 = .ok (.ireturn, 1) := by decide +kernel
theorem dX8_custom_65 : decode cX8_custom 65 = .ok (.aload_n 0, 1) := by decide +kernel
theorem dX8_custom_66 : decode cX8_custom 66 = .ok (.iload_n 1, 1) := by decide +kernel
theorem dX8_custom_67 : decode cX8_custom 67 = .ok (.putfield 88, 3) := by decide +kernel
theorem dX8_custom_70 : decode cX8_custom 70 = .ok (.aload_n 0, 1) := by decide +kernel
theorem dX8_custom_71 : decode cX8_custom 71 = .ok (.iconst 0, 1) := by decide +kernel
theorem dX8_custom_72 : decode cX8_custom 72 = .ok (.putfield 85, 3) := by decide +kernel
theorem dX8_custom_75 : decode cX8_custom 75 = .ok (.aload_n 0, 1) := by decide +kernel
theorem dX8_custom_76 : decode cX8_custom 76 = .ok (.iconst 0, 1) := by decide +kernel
theorem dX8_custom_77 : decode cX8_custom 77 = .ok (.putfield 91, 3) := by decide +kernel
theorem dX8_custom_80 : decode cX8_custom 80 = .ok (.aload_n 0, 1) := by decide +kernel
theorem dX8_custom_81 : decode cX8_custom 81 = .ok (.iconst 0, 1) := by decide +kernel
theorem dX8_custom_82 : decode cX8_custom 82 = .ok (.putfield 98, 3) := by decide +kernel
theorem dX8_custom_85 : decode cX8_custom 85 = .ok (.aload_n 0, 1) := by decide +kernel
theorem dX8_custom_86 : decode cX8_custom 86 = .ok (.iconst (-1), 1) := by decide +kernel
theorem dX8_custom_87 : decode cX8_custom 87 = .ok (.putfield 25, 3) := by decide +kernel
theorem dX8_custom_90 : decode cX8_custom 90 = .ok (.bipush 6, 2) := by decide +kernel
theorem dX8_custom_92 : decode cX8_custom 92 = .ok (.aload_n 0, 1) := by decide +kernel
theorem dX8_custom_93 : decode cX8_custom 93 = .ok (.getfield 148, 3) := by decide +kernel
theorem dX8_custom_96 : decode cX8_custom 96 = .ok (.imul, 1) := by decide +kernel
theorem dX8_custom_97 : decode cX8_custom 97 = .ok (.istore_n 3, 1) := by decide +kernel
theorem dX8_custom_98 : decode cX8_custom 98 = .ok (.iconst 0, 1) := by decide +kernel
theorem dX8_custom_99 : decode cX8_custom 99 = .ok (.istore 4, 2) := by decide +kernel
theorem dX8_custom_101 : decode cX8_custom 101 = .ok (.iload 4, 2) := by decide +kernel
theorem dX8_custom_103 : decode cX8_custom 103 = .ok (.bipush 6, 2) := by decide +kernel
theorem dX8_custom_105 : decode cX8_custom 105 = .ok (.if_icmp .ge 19, 3) := by decide +kernel
theorem dX8_custom_108 : decode cX8_custom 108 = .ok (.aload_n 0, 1) := by decide +kernel
theorem dX8_custom_109 : decode cX8_custom 109 = .ok (.getfield 32, 3) := by decide +kernel
theorem dX8_custom_112 : decode cX8_custom 112 = .ok (.iload_n 3, 1) := by decide +kernel
theorem dX8_custom_113 : decode cX8_custom 113 = .ok (.iload 4, 2) := by decide +kernel
theorem dX8_custom_115 : decode cX8_custom 115 = .ok (.iadd, 1) := by decide +kernel
theorem dX8_custom_116 : decode cX8_custom 116 = .ok (.iconst 0, 1) := by decide +kernel
theorem dX8_custom_117 : decode cX8_custom 117 = .ok (.iastore, 1) := by decide +kernel
theorem dX8_custom_118 : decode cX8_custom 118 = .ok (.iinc 4 1, 3) := by decide +kernel
theorem dX8_custom_121 : decode cX8_custom 121 = .ok (.goto (-20), 3) := by decide +kernel
theorem dX8_custom_124 : decode cX8_custom 124 = .ok (.iconst 0, 1) := by decide +kernel
theorem dX8_custom_125 : decode cX8_custom 125 = .ok (.istore 4, 2) := by decide +kernel
theorem dX8_custom_127 : decode cX8_custom 127 = .ok (.aload_n 0, 1) := by decide +kernel
theorem dX8_custom_128 : decode cX8_custom 128 = .ok (.invokevirtual 101, 3) := by decide +kernel
theorem dX8_custom_131 : decode cX8_custom 131 = .ok (.aload_n 0, 1) := by decide +kernel
theorem dX8_custom_132 : decode cX8_custom 132 = .ok (.getfield 98, 3) := by decide +kernel
theorem dX8_custom_135 : decode cX8_custom 135 = .ok (.ifCond .ne 91, 3) := by decide +kernel
theorem dX8_custom_138 : decode cX8_custom 138 = .ok (.aload_n 0, 1) := by decide +kernel
theorem dX8_custom_139 : decode cX8_custom 139 = .ok (.getfield 91, 3) := by decide +kernel
theorem dX8_custom_142 : decode cX8_custom 142 = .ok (.aload_n 0, 1) := by decide +kernel
theorem dX8_custom_143 : decode cX8_custom 143 = .ok (.getfield 88, 3) := by decide +kernel
theorem dX8_custom_146 : decode cX8_custom 146 = .ok (.if_icmp .ge 80, 3) := by decide +kernel
theorem dX8_custom_149 : decode cX8_custom 149 = .ok (.aload_n 0, 1) := by decide +kernel
theorem dX8_custom_150 : decode cX8_custom 150 = .ok (.ldc 129, 2) := by decide +kernel
theorem dX8_custom_152 : decode cX8_custom 152 = .ok (.invokevirtual 118, 3) := by decide +kernel
theorem dX8_custom_155 : decode cX8_custom 155 = .ok (.ifCond .ne 21, 3) := by decide +kernel
theorem dX8_custom_158 : decode cX8_custom 158 = .ok (.aload_n 0, 1) := by decide +kernel
theorem dX8_custom_159 : decode cX8_custom 159 = .ok (.ldc 144, 2) := by decide +kernel
theorem dX8_custom_161 : decode cX8_custom 161 = .ok (.invokevirtual 118, 3) := by decide +kernel
theorem dX8_custom_164 : decode cX8_custom 164 = .ok (.ifCond .ne 12, 3) := by decide +kernel
theorem dX8_custom_167 : decode cX8_custom 167 = .ok (.aload_n 0, 1) := by decide +kernel
theorem dX8_custom_168 : decode cX8_custom 168 = .ok (.ldc 146, 2) := by decide +kernel
theorem dX8_custom_170 : decode cX8_custom 170 = .ok (.invokevirtual 118, 3) := by decide +kernel
theorem dX8_custom_173 : decode cX8_custom 173 = .ok (.ifCond .eq 7, 3) := by decide +kernel
theorem dX8_custom_176 : decode cX8_custom 176 = .ok (.iconst 1, 1) := by decide +kernel
theorem dX8_custom_177 : decode cX8_custom 177 = .ok (.goto 4, 3) := by decide +kernel
theorem dX8_custom_180 : decode cX8_custom 180 = .ok (.iconst 0, 1) := by decide +kernel
theorem dX8_custom_181 : decode cX8_custom 181 = .ok (.istore 5, 2) := by decide +kernel
theorem dX8_custom_183 : decode cX8_custom 183 = .ok (.iload 4, 2) := by decide +kernel
theorem dX8_custom_185 : decode cX8_custom 185 = .ok (.bipush 8, 2) := by decide +kernel
theorem dX8_custom_187 : decode cX8_custom 187 = .ok (.if_icmp .ne 24, 3) := by decide +kernel
theorem dX8_custom_190 : decode cX8_custom 190 = .ok (.aload_n 0, 1) := by decide +kernel
theorem dX8_custom_191 : decode cX8_custom 191 = .ok (.iload 5, 2) := by decide +kernel
theorem dX8_custom_193 : decode cX8_custom 193 = .ok (.ifCond .eq 7, 3) := by decide +kernel
theorem dX8_custom_196 : decode cX8_custom 196 = .ok (.iconst 3, 1) := by decide +kernel
theorem dX8_custom_197 : decode cX8_custom 197 = .ok (.goto 4, 3) := by decide +kernel
theorem dX8_custom_200 : decode cX8_custom 200 = .ok (.iconst 1, 1) := by decide +kernel
theorem dX8_custom_201 : decode cX8_custom 201 = .ok (.aload_n 0, 1) := by decide +kernel
theorem dX8_custom_202 : decode cX8_custom 202 = .ok (.getfield 91, 3) := by decide +kernel
theorem dX8_custom_205 : decode cX8_custom 205 = .ok (.invokevirtual 122, 3) := by decide +kernel
theorem dX8_custom_208 : decode cX8_custom 208 = .ok (.goto 15, 3) := by decide +kernel
theorem dX8_custom_211 : decode cX8_custom 211 = .ok (.aload_n 0, 1) := by decide +kernel
theorem dX8_custom_212 : decode cX8_custom 212 = .ok (.iload_n 3, 1) := by decide +kernel
theorem dX8_custom_213 : decode cX8_custom 213 = .ok (.invokevirtual 151, 3) := by decide +kernel
theorem dX8_custom_216 : decode cX8_custom 216 = .ok (.iinc 4 1, 3) := by decide +kernel
theorem dX8_custom_219 : decode cX8_custom 219 = .ok (.aload_n 0, 1) := by decide +kernel
theorem dX8_custom_220 : decode cX8_custom 220 = .ok (.invokevirtual 101, 3) := by decide +kernel
theorem dX8_custom_223 : decode cX8_custom 223 = .ok (.goto (-92), 3) := by decide +kernel
theorem dX8_custom_226 : decode cX8_custom 226 = .ok (.aload_n 0, 1) := by decide +kernel
theorem dX8_custom_227 : decode cX8_custom 227 = .ok (.getfield 98, 3) := by decide +kernel
theorem dX8_custom_230 : decode cX8_custom 230 = .ok (.ifCond .le 11, 3) := by decide +kernel
theorem dX8_custom_233 : decode cX8_custom 233 = .ok (.aload_n 0, 1) := by decide +kernel
theorem dX8_custom_234 : decode cX8_custom 234 = .ok (.getfield 98, 3) := by decide +kernel
theorem dX8_custom_237 : decode cX8_custom 237 = .ok (.bipush 10, 2) := by decide +kernel
theorem dX8_custom_239 : decode cX8_custom 239 = .ok (.isub, 1) := by decide +kernel
theorem dX8_custom_240 : decode cX8_custom 240 = .ok (.ireturn, 1) := by decide +kernel
theorem dX8_custom_241 : decode cX8_custom 241 = .ok (.aload_n 0, 1) := by decide +kernel
theorem dX8_custom_242 : decode cX8_custom 242 = .ok (.getfield 29, 3) := by decide +kernel
theorem dX8_custom_245 : decode cX8_custom 245 = .ok (.aload_n 0, 1) := by decide +kernel
theorem dX8_custom_246 : decode cX8_custom 246 = .ok (.getfield 148, 3) := by decide +kernel
theorem dX8_custom_249 : decode cX8_custom 249 = .ok (.iload_n 2, 1) := by decide +kernel
theorem dX8_custom_250 : decode cX8_custom 250 = .ok (.iastore, 1) := by decide +kernel
theorem dX8_custom_251 : decode cX8_custom 251 = .ok (.aload_n 0, 1) := by decide +kernel
theorem dX8_custom_252 : decode cX8_custom 252 = .ok (.dup, 1) := by decide +kernel
theorem dX8_custom_253 : decode cX8_custom 253 = .ok (.getfield 148, 3) := by decide +kernel
theorem dX8_custom_256 : decode cX8_custom 256 = .ok (.iconst 1, 1) := by decide +kernel
theorem dX8_custom_257 : decode cX8_custom 257 = .ok (.iadd, 1) := by decide +kernel
theorem dX8_custom_258 : decode cX8_custom 258 = .ok (.putfield 148, 3) := by decide +kernel
theorem dX8_custom_261 : decode cX8_custom 261 = .ok (.aload_n 0, 1) := by decide +kernel
theorem dX8_custom_262 : decode cX8_custom 262 = .ok (.getfield 148, 3) := by decide +kernel
theorem dX8_custom_265 : decode cX8_custom 265 = .ok (.iconst 1, 1) := by decide +kernel
theorem dX8_custom_266 : decode cX8_custom 266 = .ok (.isub, 1) := by decide +kernel
theorem dX8_custom_267 : decode cX8_custom 267 = .ok (.ireturn, 1) := by decide +kernel
theorem dX8_fault_0 : decode cX8_fault 0 = .ok (.aload_n 0, 1) := by decide +kernel
theorem dX8_fault_1 : decode cX8_fault 1 = .ok (.iconst 0, 1) := by decide +kernel
theorem dX8_fault_2 : decode cX8_fault 2 = .ok (.putfield 74, 3) := by decide +kernel
theorem dX8_fault_5 : decode cX8_fault 5 = .ok (.aload_n 0, 1) := by decide +kernel
theorem dX8_fault_6 : decode cX8_fault 6 = .ok (.getfield 25, 3) := by decide +kernel
theorem dX8_fault_9 : decode cX8_fault 9 = .ok (.ireturn, 1) := by decide +kernel
theorem dX8_forceOf_0 : decode cX8_forceOf 0 = .ok (.iconst (-1), 1) := by decide +kernel
theorem dX8_forceOf_1 : decode cX8_forceOf 1 = .ok (.istore_n 2, 1) := by decide +kernel
theorem dX8_forceOf_2 : decode cX8_forceOf 2 = .ok (.iconst 0, 1) := by decide +kernel
theorem dX8_forceOf_3 : decode cX8_forceOf 3 = .ok (.istore_n 3, 1) := by decide +kernel
theorem dX8_forceOf_4 : decode cX8_forceOf 4 = .ok (.iload_n 3, 1) := by decide +kernel
theorem dX8_forceOf_5 : decode cX8_forceOf 5 = .ok (.aload_n 0, 1) := by decide +kernel
theorem dX8_forceOf_6 : decode cX8_forceOf 6 = .ok (.getfield 148, 3) := by decide +kernel
theorem dX8_forceOf_9 : decode cX8_forceOf 9 = .ok (.if_icmp .ge 40, 3) := by decide +kernel
theorem dX8_forceOf_12 : decode cX8_forceOf 12 = .ok (.aload_n 0, 1) := by decide +kernel
theorem dX8_forceOf_13 : decode cX8_forceOf 13 = .ok (.getfield 29, 3) := by decide +kernel
theorem dX8_forceOf_16 : decode cX8_forceOf 16 = .ok (.iload_n 3, 1) := by decide +kernel
theorem dX8_forceOf_17 : decode cX8_forceOf 17 = .ok (.iaload, 1) := by decide +kernel
theorem dX8_forceOf_18 : decode cX8_forceOf 18 = .ok (.iload_n 1, 1) := by decide +kernel
theorem dX8_forceOf_19 : decode cX8_forceOf 19 = .ok (.if_icmp .gt 24, 3) := by decide +kernel
theorem dX8_forceOf_22 : decode cX8_forceOf 22 = .ok (.iload_n 2, 1) := by decide +kernel
theorem dX8_forceOf_23 : decode cX8_forceOf 23 = .ok (.ifCond .lt 18, 3) := by decide +kernel
theorem dX8_forceOf_26 : decode cX8_forceOf 26 = .ok (.aload_n 0, 1) := by decide +kernel
theorem dX8_forceOf_27 : decode cX8_forceOf 27 = .ok (.getfield 29, 3) := by decide +kernel
theorem dX8_forceOf_30 : decode cX8_forceOf 30 = .ok (.iload_n 3, 1) := by decide +kernel
theorem dX8_forceOf_31 : decode cX8_forceOf 31 = .ok (.iaload, 1) := by decide +kernel
theorem dX8_forceOf_32 : decode cX8_forceOf 32 = .ok (.aload_n 0, 1) := by decide +kernel
theorem dX8_forceOf_33 : decode cX8_forceOf 33 = .ok (.getfield 29, 3) := by decide +kernel
theorem dX8_forceOf_36 : decode cX8_forceOf 36 = .ok (.iload_n 2, 1) := by decide +kernel
theorem dX8_forceOf_37 : decode cX8_forceOf 37 = .ok (.iaload, 1) := by decide +kernel
theorem dX8_forceOf_38 : decode cX8_forceOf 38 = .ok (.if_icmp .lt 5, 3) := by decide +kernel
theorem dX8_forceOf_41 : decode cX8_forceOf 41 = .ok (.iload_n 3, 1) := by decide +kernel
theorem dX8_forceOf_42 : decode cX8_forceOf 42 = .ok (.istore_n 2, 1) := by decide +kernel
theorem dX8_forceOf_43 : decode cX8_forceOf 43 = .ok (.iinc 3 1, 3) := by decide +kernel
theorem dX8_forceOf_46 : decode cX8_forceOf 46 = .ok (.goto (-42), 3) := by decide +kernel
theorem dX8_forceOf_49 : decode cX8_forceOf 49 = .ok (.iload_n 2, 1) := by decide +kernel
theorem dX8_forceOf_50 : decode cX8_forceOf 50 = .ok (.ireturn, 1) := by decide +kernel
set_option maxRecDepth 20000 in
theorem ggX8_force_X8_forceOf : GoodIn wsX8_force wsX8_forceOf := goodIn_r _ [6, 7, 8, 9, 10, 11, 12, 13, 14, 15, 16, 17, 18, 19, 20, 21, 22, 23, 24, 25, 26, 27, 28, 29, 30, 31, 32, 33, 34, 35, 36, 37, 38, 39] (by decide +kernel) (by decide +kernel)
set_option maxRecDepth 20000 in
theorem gX8_force_X8_forceOf : GoodIn wsX8_force (wsV RX8 154 RX8 yX8_forceOf wsX8_forceOf) := goodIn_app (goodIn_of _ (by decide +kernel)) ggX8_force_X8_forceOf
theorem dX8_force_0 : decode cX8_force 0 = .ok (.aload_n 0, 1) := by decide +kernel
theorem dX8_force_1 : decode cX8_force 1 = .ok (.iconst 0, 1) := by decide +kernel
theorem dX8_force_2 : decode cX8_force 2 = .ok (.putfield 74, 3) := by decide +kernel
theorem dX8_force_5 : decode cX8_force 5 = .ok (.aload_n 0, 1) := by decide +kernel
theorem dX8_force_6 : decode cX8_force 6 = .ok (.iload_n 1, 1) := by decide +kernel
theorem dX8_force_7 : decode cX8_force 7 = .ok (.invokevirtual 154, 3) := by decide +kernel
theorem dX8_force_10 : decode cX8_force 10 = .ok (.ireturn, 1) := by decide +kernel
set_option maxRecDepth 20000 in
theorem ggX8_term_X8_forceOf : GoodIn wsX8_term wsX8_forceOf := goodIn_r _ [7, 8, 9, 10, 11, 12, 13, 14, 15, 16, 17, 18, 19, 20, 21, 22, 23, 24, 25, 26, 27, 28, 29, 30, 31, 32, 33, 34, 35, 36, 37, 38, 39, 40] (by decide +kernel) (by decide +kernel)
set_option maxRecDepth 20000 in
theorem gX8_term_X8_forceOf : GoodIn wsX8_term (wsV RX8 154 RX8 yX8_forceOf wsX8_forceOf) := goodIn_app (goodIn_of _ (by decide +kernel)) ggX8_term_X8_forceOf
theorem dX8_term_0 : decode cX8_term 0 = .ok (.aload_n 0, 1) := by decide +kernel
theorem dX8_term_1 : decode cX8_term 1 = .ok (.aload_n 0, 1) := by decide +kernel
theorem dX8_term_2 : decode cX8_term 2 = .ok (.getfield 157, 3) := by decide +kernel
theorem dX8_term_5 : decode cX8_term 5 = .ok (.invokevirtual 154, 3) := by decide +kernel
theorem dX8_term_8 : decode cX8_term 8 = .ok (.istore_n 2, 1) := by decide +kernel
theorem dX8_term_9 : decode cX8_term 9 = .ok (.iload_n 2, 1) := by decide +kernel
theorem dX8_term_10 : decode cX8_term 10 = .ok (.ifCond .ge 7, 3) := by decide +kernel
theorem dX8_term_13 : decode cX8_term 13 = .ok (.iconst 0, 1) := by decide +kernel
theorem dX8_term_14 : decode cX8_term 14 = .ok (.goto 14, 3) := by decide +kernel
theorem dX8_term_17 : decode cX8_term 17 = .ok (.aload_n 0, 1) := by decide +kernel
theorem dX8_term_18 : decode cX8_term 18 = .ok (.getfield 32, 3) := by decide +kernel
theorem dX8_term_21 : decode cX8_term 21 = .ok (.bipush 6, 2) := by decide +kernel
theorem dX8_term_23 : decode cX8_term 23 = .ok (.iload_n 2, 1) := by decide +kernel
theorem dX8_term_24 : decode cX8_term 24 = .ok (.imul, 1) := by decide +kernel
theorem dX8_term_25 : decode cX8_term 25 = .ok (.iload_n 1, 1) := by decide +kernel
theorem dX8_term_26 : decode cX8_term 26 = .ok (.iadd, 1) := by decide +kernel
theorem dX8_term_27 : decode cX8_term 27 = .ok (.iaload, 1) := by decide +kernel
theorem dX8_term_28 : decode cX8_term 28 = .ok (.ireturn, 1) := by decide +kernel
theorem dX8_owe_0 : decode cX8_owe 0 = .ok (.aload_n 0, 1) := by decide +kernel
theorem dX8_owe_1 : decode cX8_owe 1 = .ok (.getfield 35, 3) := by decide +kernel
theorem dX8_owe_4 : decode cX8_owe 4 = .ok (.aload_n 0, 1) := by decide +kernel
theorem dX8_owe_5 : decode cX8_owe 5 = .ok (.getfield 160, 3) := by decide +kernel
theorem dX8_owe_8 : decode cX8_owe 8 = .ok (.iload_n 1, 1) := by decide +kernel
theorem dX8_owe_9 : decode cX8_owe 9 = .ok (.iastore, 1) := by decide +kernel
theorem dX8_owe_10 : decode cX8_owe 10 = .ok (.aload_n 0, 1) := by decide +kernel
theorem dX8_owe_11 : decode cX8_owe 11 = .ok (.getfield 38, 3) := by decide +kernel
theorem dX8_owe_14 : decode cX8_owe 14 = .ok (.aload_n 0, 1) := by decide +kernel
theorem dX8_owe_15 : decode cX8_owe 15 = .ok (.getfield 160, 3) := by decide +kernel
theorem dX8_owe_18 : decode cX8_owe 18 = .ok (.iload_n 2, 1) := by decide +kernel
theorem dX8_owe_19 : decode cX8_owe 19 = .ok (.iastore, 1) := by decide +kernel
theorem dX8_owe_20 : decode cX8_owe 20 = .ok (.aload_n 0, 1) := by decide +kernel
theorem dX8_owe_21 : decode cX8_owe 21 = .ok (.getfield 41, 3) := by decide +kernel
theorem dX8_owe_24 : decode cX8_owe 24 = .ok (.aload_n 0, 1) := by decide +kernel
theorem dX8_owe_25 : decode cX8_owe 25 = .ok (.getfield 160, 3) := by decide +kernel
theorem dX8_owe_28 : decode cX8_owe 28 = .ok (.lload_n 3, 1) := by decide +kernel
theorem dX8_owe_29 : decode cX8_owe 29 = .ok (.lastore, 1) := by decide +kernel
theorem dX8_owe_30 : decode cX8_owe 30 = .ok (.aload_n 0, 1) := by decide +kernel
theorem dX8_owe_31 : decode cX8_owe 31 = .ok (.getfield 44, 3) := by decide +kernel
theorem dX8_owe_34 : decode cX8_owe 34 = .ok (.aload_n 0, 1) := by decide +kernel
theorem dX8_owe_35 : decode cX8_owe 35 = .ok (.getfield 160, 3) := by decide +kernel
theorem dX8_owe_38 : decode cX8_owe 38 = .ok (.iload 5, 2) := by decide +kernel
theorem dX8_owe_40 : decode cX8_owe 40 = .ok (.bastore, 1) := by decide +kernel
theorem dX8_owe_41 : decode cX8_owe 41 = .ok (.aload_n 0, 1) := by decide +kernel
theorem dX8_owe_42 : decode cX8_owe 42 = .ok (.getfield 47, 3) := by decide +kernel
theorem dX8_owe_45 : decode cX8_owe 45 = .ok (.aload_n 0, 1) := by decide +kernel
theorem dX8_owe_46 : decode cX8_owe 46 = .ok (.getfield 160, 3) := by decide +kernel
theorem dX8_owe_49 : decode cX8_owe 49 = .ok (.iload 5, 2) := by decide +kernel
theorem dX8_owe_51 : decode cX8_owe 51 = .ok (.ifCond .eq 7, 3) := by decide +kernel
theorem dX8_owe_54 : decode cX8_owe 54 = .ok (.iconst (-1), 1) := by decide +kernel
theorem dX8_owe_55 : decode cX8_owe 55 = .ok (.goto 5, 3) := by decide +kernel
theorem dX8_owe_58 : decode cX8_owe 58 = .ok (.iload 6, 2) := by decide +kernel
theorem dX8_owe_60 : decode cX8_owe 60 = .ok (.iastore, 1) := by decide +kernel
theorem dX8_owe_61 : decode cX8_owe 61 = .ok (.aload_n 0, 1) := by decide +kernel
theorem dX8_owe_62 : decode cX8_owe 62 = .ok (.dup, 1) := by decide +kernel
theorem dX8_owe_63 : decode cX8_owe 63 = .ok (.getfield 160, 3) := by decide +kernel
theorem dX8_owe_66 : decode cX8_owe 66 = .ok (.iconst 1, 1) := by decide +kernel
theorem dX8_owe_67 : decode cX8_owe 67 = .ok (.iadd, 1) := by decide +kernel
theorem dX8_owe_68 : decode cX8_owe 68 = .ok (.putfield 160, 3) := by decide +kernel
theorem dX8_owe_71 : decode cX8_owe 71 = .ok (.return_, 1) := by decide +kernel
theorem dX8_allOwed_0 : decode cX8_allOwed 0 = .ok (.lconst 0, 1) := by decide +kernel
theorem dX8_allOwed_1 : decode cX8_allOwed 1 = .ok (.lstore_n 3, 1) := by decide +kernel
theorem dX8_allOwed_2 : decode cX8_allOwed 2 = .ok (.iconst 0, 1) := by decide +kernel
theorem dX8_allOwed_3 : decode cX8_allOwed 3 = .ok (.istore 5, 2) := by decide +kernel
theorem dX8_allOwed_5 : decode cX8_allOwed 5 = .ok (.iload 5, 2) := by decide +kernel
theorem dX8_allOwed_7 : decode cX8_allOwed 7 = .ok (.aload_n 0, 1) := by decide +kernel
theorem dX8_allOwed_8 : decode cX8_allOwed 8 = .ok (.getfield 160, 3) := by decide +kernel
theorem dX8_allOwed_11 : decode cX8_allOwed 11 = .ok (.if_icmp .ge 45, 3) := by decide +kernel
theorem dX8_allOwed_14 : decode cX8_allOwed 14 = .ok (.lload_n 3, 1) := by decide +kernel
theorem dX8_allOwed_15 : decode cX8_allOwed 15 = .ok (.aload_n 0, 1) := by decide +kernel
theorem dX8_allOwed_16 : decode cX8_allOwed 16 = .ok (.getfield 35, 3) := by decide +kernel
theorem dX8_allOwed_19 : decode cX8_allOwed 19 = .ok (.iload 5, 2) := by decide +kernel
theorem dX8_allOwed_21 : decode cX8_allOwed 21 = .ok (.iaload, 1) := by decide +kernel
theorem dX8_allOwed_22 : decode cX8_allOwed 22 = .ok (.iload_n 1, 1) := by decide +kernel
theorem dX8_allOwed_23 : decode cX8_allOwed 23 = .ok (.if_icmp .ne 24, 3) := by decide +kernel
theorem dX8_allOwed_26 : decode cX8_allOwed 26 = .ok (.aload_n 0, 1) := by decide +kernel
theorem dX8_allOwed_27 : decode cX8_allOwed 27 = .ok (.getfield 38, 3) := by decide +kernel
theorem dX8_allOwed_30 : decode cX8_allOwed 30 = .ok (.iload 5, 2) := by decide +kernel
theorem dX8_allOwed_32 : decode cX8_allOwed 32 = .ok (.iaload, 1) := by decide +kernel
theorem dX8_allOwed_33 : decode cX8_allOwed 33 = .ok (.iload_n 2, 1) := by decide +kernel
theorem dX8_allOwed_34 : decode cX8_allOwed 34 = .ok (.if_icmp .ne 13, 3) := by decide +kernel
theorem dX8_allOwed_37 : decode cX8_allOwed 37 = .ok (.aload_n 0, 1) := by decide +kernel
theorem dX8_allOwed_38 : decode cX8_allOwed 38 = .ok (.getfield 41, 3) := by decide +kernel
theorem dX8_allOwed_41 : decode cX8_allOwed 41 = .ok (.iload 5, 2) := by decide +kernel
theorem dX8_allOwed_43 : decode cX8_allOwed 43 = .ok (.laload, 1) := by decide +kernel
theorem dX8_allOwed_44 : decode cX8_allOwed 44 = .ok (.goto 4, 3) := by decide +kernel
theorem dX8_allOwed_47 : decode cX8_allOwed 47 = .ok (.lconst 0, 1) := by decide +kernel
theorem dX8_allOwed_48 : decode cX8_allOwed 48 = .ok (.ladd, 1) := by decide +kernel
theorem dX8_allOwed_49 : decode cX8_allOwed 49 = .ok (.lstore_n 3, 1) := by decide +kernel
theorem dX8_allOwed_50 : decode cX8_allOwed 50 = .ok (.iinc 5 1, 3) := by decide +kernel
theorem dX8_allOwed_53 : decode cX8_allOwed 53 = .ok (.goto (-48), 3) := by decide +kernel
theorem dX8_allOwed_56 : decode cX8_allOwed 56 = .ok (.lload_n 3, 1) := by decide +kernel
theorem dX8_allOwed_57 : decode cX8_allOwed 57 = .ok (.lreturn, 1) := by decide +kernel
set_option maxRecDepth 20000 in
theorem ggX8_madeOf_X8_allOwed : GoodIn wsX8_madeOf wsX8_allOwed := goodIn_r _ [6, 7, 8, 9, 10, 23, 24, 25, 26, 27, 28, 29, 30, 31, 32, 33, 34, 35, 36, 37, 38, 39, 40, 41, 42, 43, 44, 45, 46, 47, 48, 49, 50, 51, 52, 53] (by decide +kernel) (by decide +kernel)
set_option maxRecDepth 20000 in
theorem gX8_madeOf_X8_allOwed : GoodIn wsX8_madeOf (wsV RX8 163 RX8 yX8_allOwed wsX8_allOwed) := goodIn_app (goodIn_of _ (by decide +kernel)) ggX8_madeOf_X8_allOwed
set_option maxRecDepth 20000 in
theorem ggX8_madeOf_X8_term : GoodIn wsX8_madeOf wsX8_term := goodIn_r _ [14, 15, 16, 17, 18, 19, 5, 20, 21, 22, 23, 24, 25, 26, 27, 28, 29, 30, 31, 32, 33, 34, 35, 36, 37, 38, 39, 40, 41, 42, 43, 44, 45, 46, 47, 48, 49, 50, 51, 52, 53] (by decide +kernel) (by decide +kernel)
set_option maxRecDepth 20000 in
theorem gX8_madeOf_X8_term : GoodIn wsX8_madeOf (wsV RX8 167 RX8 yX8_term wsX8_term) := goodIn_app (goodIn_of _ (by decide +kernel)) ggX8_madeOf_X8_term
theorem dX8_madeOf_0 : decode cX8_madeOf 0 = .ok (.lload_n 3, 1) := by decide +kernel
theorem dX8_madeOf_1 : decode cX8_madeOf 1 = .ok (.aload_n 0, 1) := by decide +kernel
theorem dX8_madeOf_2 : decode cX8_madeOf 2 = .ok (.iload_n 1, 1) := by decide +kernel
theorem dX8_madeOf_3 : decode cX8_madeOf 3 = .ok (.iload_n 2, 1) := by decide +kernel
theorem dX8_madeOf_4 : decode cX8_madeOf 4 = .ok (.invokevirtual 163, 3) := by decide +kernel
theorem dX8_madeOf_7 : decode cX8_madeOf 7 = .ok (.lsub, 1) := by decide +kernel
theorem dX8_madeOf_8 : decode cX8_madeOf 8 = .ok (.lstore 5, 2) := by decide +kernel
theorem dX8_madeOf_10 : decode cX8_madeOf 10 = .ok (.aload_n 0, 1) := by decide +kernel
theorem dX8_madeOf_11 : decode cX8_madeOf 11 = .ok (.iconst 0, 1) := by decide +kernel
theorem dX8_madeOf_12 : decode cX8_madeOf 12 = .ok (.invokevirtual 167, 3) := by decide +kernel
theorem dX8_madeOf_15 : decode cX8_madeOf 15 = .ok (.istore 7, 2) := by decide +kernel
theorem dX8_madeOf_17 : decode cX8_madeOf 17 = .ok (.aload_n 0, 1) := by decide +kernel
theorem dX8_madeOf_18 : decode cX8_madeOf 18 = .ok (.iconst 1, 1) := by decide +kernel
theorem dX8_madeOf_19 : decode cX8_madeOf 19 = .ok (.invokevirtual 167, 3) := by decide +kernel
theorem dX8_madeOf_22 : decode cX8_madeOf 22 = .ok (.istore 8, 2) := by decide +kernel
theorem dX8_madeOf_24 : decode cX8_madeOf 24 = .ok (.lload 5, 2) := by decide +kernel
theorem dX8_madeOf_26 : decode cX8_madeOf 26 = .ok (.lconst 0, 1) := by decide +kernel
theorem dX8_madeOf_27 : decode cX8_madeOf 27 = .ok (.lcmp, 1) := by decide +kernel
theorem dX8_madeOf_28 : decode cX8_madeOf 28 = .ok (.ifCond .le 8, 3) := by decide +kernel
theorem dX8_madeOf_31 : decode cX8_madeOf 31 = .ok (.iload 8, 2) := by decide +kernel
theorem dX8_madeOf_33 : decode cX8_madeOf 33 = .ok (.ifCond .ne 5, 3) := by decide +kernel
theorem dX8_madeOf_36 : decode cX8_madeOf 36 = .ok (.lconst 0, 1) := by decide +kernel
theorem dX8_madeOf_37 : decode cX8_madeOf 37 = .ok (.lreturn, 1) := by decide +kernel
theorem dX8_madeOf_38 : decode cX8_madeOf 38 = .ok (.lload 5, 2) := by decide +kernel
theorem dX8_madeOf_40 : decode cX8_madeOf 40 = .ok (.iload 7, 2) := by decide +kernel
theorem dX8_madeOf_42 : decode cX8_madeOf 42 = .ok (.i2l, 1) := by decide +kernel
theorem dX8_madeOf_43 : decode cX8_madeOf 43 = .ok (.lmul, 1) := by decide +kernel
theorem dX8_madeOf_44 : decode cX8_madeOf 44 = .ok (.iload 8, 2) := by decide +kernel
theorem dX8_madeOf_46 : decode cX8_madeOf 46 = .ok (.i2l, 1) := by decide +kernel
theorem dX8_madeOf_47 : decode cX8_madeOf 47 = .ok (.ladd, 1) := by decide +kernel
theorem dX8_madeOf_48 : decode cX8_madeOf 48 = .ok (.lconst 1, 1) := by decide +kernel
theorem dX8_madeOf_49 : decode cX8_madeOf 49 = .ok (.lsub, 1) := by decide +kernel
theorem dX8_madeOf_50 : decode cX8_madeOf 50 = .ok (.iload 8, 2) := by decide +kernel
theorem dX8_madeOf_52 : decode cX8_madeOf 52 = .ok (.i2l, 1) := by decide +kernel
theorem dX8_madeOf_53 : decode cX8_madeOf 53 = .ok (.ldiv, 1) := by decide +kernel
theorem dX8_madeOf_54 : decode cX8_madeOf 54 = .ok (.lstore 9, 2) := by decide +kernel
theorem dX8_madeOf_56 : decode cX8_madeOf 56 = .ok (.lload 9, 2) := by decide +kernel
theorem dX8_madeOf_58 : decode cX8_madeOf 58 = .ok (.ldc2_w 170, 3) := by decide +kernel
theorem dX8_madeOf_61 : decode cX8_madeOf 61 = .ok (.lcmp, 1) := by decide +kernel
theorem dX8_madeOf_62 : decode cX8_madeOf 62 = .ok (.ifCond .le 9, 3) := by decide +kernel
theorem dX8_madeOf_65 : decode cX8_madeOf 65 = .ok (.ldc2_w 170, 3) := by decide +kernel
theorem dX8_madeOf_68 : decode cX8_madeOf 68 = .ok (.goto 5, 3) := by decide +kernel
theorem dX8_madeOf_71 : decode cX8_madeOf 71 = .ok (.lload 9, 2) := by decide +kernel
theorem dX8_madeOf_73 : decode cX8_madeOf 73 = .ok (.lreturn, 1) := by decide +kernel
theorem dX8_next_0 : decode cX8_next 0 = .ok (.iconst (-1), 1) := by decide +kernel
theorem dX8_next_1 : decode cX8_next 1 = .ok (.istore_n 3, 1) := by decide +kernel
theorem dX8_next_2 : decode cX8_next 2 = .ok (.iconst 0, 1) := by decide +kernel
theorem dX8_next_3 : decode cX8_next 3 = .ok (.istore 4, 2) := by decide +kernel
theorem dX8_next_5 : decode cX8_next 5 = .ok (.iload 4, 2) := by decide +kernel
theorem dX8_next_7 : decode cX8_next 7 = .ok (.aload_n 0, 1) := by decide +kernel
theorem dX8_next_8 : decode cX8_next 8 = .ok (.getfield 160, 3) := by decide +kernel
theorem dX8_next_11 : decode cX8_next 11 = .ok (.if_icmp .ge 88, 3) := by decide +kernel
theorem dX8_next_14 : decode cX8_next 14 = .ok (.aload_n 0, 1) := by decide +kernel
theorem dX8_next_15 : decode cX8_next 15 = .ok (.getfield 35, 3) := by decide +kernel
theorem dX8_next_18 : decode cX8_next 18 = .ok (.iload 4, 2) := by decide +kernel
theorem dX8_next_20 : decode cX8_next 20 = .ok (.iaload, 1) := by decide +kernel
theorem dX8_next_21 : decode cX8_next 21 = .ok (.iload_n 1, 1) := by decide +kernel
theorem dX8_next_22 : decode cX8_next 22 = .ok (.if_icmp .ne 71, 3) := by decide +kernel
theorem dX8_next_25 : decode cX8_next 25 = .ok (.aload_n 0, 1) := by decide +kernel
theorem dX8_next_26 : decode cX8_next 26 = .ok (.getfield 38, 3) := by decide +kernel
theorem dX8_next_29 : decode cX8_next 29 = .ok (.iload 4, 2) := by decide +kernel
theorem dX8_next_31 : decode cX8_next 31 = .ok (.iaload, 1) := by decide +kernel
theorem dX8_next_32 : decode cX8_next 32 = .ok (.iload_n 2, 1) := by decide +kernel
theorem dX8_next_33 : decode cX8_next 33 = .ok (.if_icmp .ne 60, 3) := by decide +kernel
theorem dX8_next_36 : decode cX8_next 36 = .ok (.aload_n 0, 1) := by decide +kernel
theorem dX8_next_37 : decode cX8_next 37 = .ok (.getfield 41, 3) := by decide +kernel
theorem dX8_next_40 : decode cX8_next 40 = .ok (.iload 4, 2) := by decide +kernel
theorem dX8_next_42 : decode cX8_next 42 = .ok (.laload, 1) := by decide +kernel
theorem dX8_next_43 : decode cX8_next 43 = .ok (.lconst 0, 1) := by decide +kernel
theorem dX8_next_44 : decode cX8_next 44 = .ok (.lcmp, 1) := by decide +kernel
theorem dX8_next_45 : decode cX8_next 45 = .ok (.ifCond .ne 6, 3) := by decide +kernel
theorem dX8_next_48 : decode cX8_next 48 = .ok (.goto 45, 3) := by decide +kernel
theorem dX8_next_51 : decode cX8_next 51 = .ok (.iload_n 3, 1) := by decide +kernel
theorem dX8_next_52 : decode cX8_next 52 = .ok (.ifCond .lt 38, 3) := by decide +kernel
theorem dX8_next_55 : decode cX8_next 55 = .ok (.aload_n 0, 1) := by decide +kernel
theorem dX8_next_56 : decode cX8_next 56 = .ok (.getfield 44, 3) := by decide +kernel
theorem dX8_next_59 : decode cX8_next 59 = .ok (.iload 4, 2) := by decide +kernel
theorem dX8_next_61 : decode cX8_next 61 = .ok (.baload, 1) := by decide +kernel
theorem dX8_next_62 : decode cX8_next 62 = .ok (.ifCond .ne 31, 3) := by decide +kernel
theorem dX8_next_65 : decode cX8_next 65 = .ok (.aload_n 0, 1) := by decide +kernel
theorem dX8_next_66 : decode cX8_next 66 = .ok (.getfield 44, 3) := by decide +kernel
theorem dX8_next_69 : decode cX8_next 69 = .ok (.iload_n 3, 1) := by decide +kernel
theorem dX8_next_70 : decode cX8_next 70 = .ok (.baload, 1) := by decide +kernel
theorem dX8_next_71 : decode cX8_next 71 = .ok (.ifCond .ne 19, 3) := by decide +kernel
theorem dX8_next_74 : decode cX8_next 74 = .ok (.aload_n 0, 1) := by decide +kernel
theorem dX8_next_75 : decode cX8_next 75 = .ok (.getfield 47, 3) := by decide +kernel
theorem dX8_next_78 : decode cX8_next 78 = .ok (.iload 4, 2) := by decide +kernel
theorem dX8_next_80 : decode cX8_next 80 = .ok (.iaload, 1) := by decide +kernel
theorem dX8_next_81 : decode cX8_next 81 = .ok (.aload_n 0, 1) := by decide +kernel
theorem dX8_next_82 : decode cX8_next 82 = .ok (.getfield 47, 3) := by decide +kernel
theorem dX8_next_85 : decode cX8_next 85 = .ok (.iload_n 3, 1) := by decide +kernel
end
section
theorem dX8_next_86 : decode cX8_next 86 = .ok (.iaload, 1) := by decide +kernel
theorem dX8_next_87 : decode cX8_next 87 = .ok (.if_icmp .ge 6, 3) := by decide +kernel
theorem dX8_next_90 : decode cX8_next 90 = .ok (.iload 4, 2) := by decide +kernel
theorem dX8_next_92 : decode cX8_next 92 = .ok (.istore_n 3, 1) := by decide +kernel
theorem dX8_next_93 : decode cX8_next 93 = .ok (.iinc 4 1, 3) := by decide +kernel
theorem dX8_next_96 : decode cX8_next 96 = .ok (.goto (-91), 3) := by decide +kernel
theorem dX8_next_99 : decode cX8_next 99 = .ok (.iload_n 3, 1) := by decide +kernel
theorem dX8_next_100 : decode cX8_next 100 = .ok (.ireturn, 1) := by decide +kernel
set_option maxRecDepth 20000 in
theorem ggX8_gives_X8_madeOf : GoodIn wsX8_gives wsX8_madeOf := goodIn_r _ [8, 9, 10, 11, 12, 7, 13, 14, 15, 16, 1, 17, 18, 19, 20, 2, 21, 22, 23, 24, 25, 26, 27, 38, 39, 40, 41, 42, 43, 44, 45, 46, 47, 48, 49, 50, 51, 52, 53, 54, 55, 56, 57, 58, 59, 60, 61, 62, 63, 64, 65, 66, 67, 68] (by decide +kernel) (by decide +kernel)
set_option maxRecDepth 20000 in
theorem gX8_gives_X8_madeOf : GoodIn wsX8_gives (wsV RX8 172 RX8 yX8_madeOf wsX8_madeOf) := goodIn_app (goodIn_of _ (by decide +kernel)) ggX8_gives_X8_madeOf
set_option maxRecDepth 20000 in
theorem ggX8_gives_X8_next : GoodIn wsX8_gives wsX8_next := goodIn_r _ [31, 14, 15, 16, 1, 32, 33, 38, 39, 40, 41, 42, 43, 44, 45, 46, 47, 48, 49, 50, 51, 52, 53, 54, 55, 56, 57, 58, 59, 60, 61, 62, 63, 64, 65, 66, 67, 68] (by decide +kernel) (by decide +kernel)
set_option maxRecDepth 20000 in
theorem gX8_gives_X8_next : GoodIn wsX8_gives (wsV RX8 176 RX8 yX8_next wsX8_next) := goodIn_app (goodIn_of _ (by decide +kernel)) ggX8_gives_X8_next
set_option maxRecDepth 20000 in
theorem ggX8_gives_X8_term : GoodIn wsX8_gives wsX8_term := goodIn_r _ [20, 2, 21, 22, 23, 24, 7, 25, 26, 27, 38, 39, 40, 41, 42, 43, 44, 45, 46, 47, 48, 49, 50, 51, 52, 53, 54, 55, 56, 57, 58, 59, 60, 61, 62, 63, 64, 65, 66, 67, 68] (by decide +kernel) (by decide +kernel)
set_option maxRecDepth 20000 in
theorem gX8_gives_X8_term : GoodIn wsX8_gives (wsV RX8 167 RX8 yX8_term wsX8_term) := goodIn_app (goodIn_of _ (by decide +kernel)) ggX8_gives_X8_term
set_option maxRecDepth 20000 in
theorem ggX8_gives_X8_owe : GoodIn wsX8_gives wsX8_owe := goodIn_r _ [37, 15, 14, 16, 1, 32, 33, 38, 39, 40, 41, 42, 43, 44, 45, 46, 47, 48, 49, 50, 51, 52, 53, 54, 55, 56, 57, 58, 59, 60, 61, 62, 63, 64, 65, 66, 67, 68] (by decide +kernel) (by decide +kernel)
set_option maxRecDepth 20000 in
theorem gX8_gives_X8_owe : GoodIn wsX8_gives (wsV RX8 180 RX8 yX8_owe wsX8_owe) := goodIn_app (goodIn_of _ (by decide +kernel)) ggX8_gives_X8_owe
theorem dX8_gives_0 : decode cX8_gives 0 = .ok (.aload_n 0, 1) := by decide +kernel
theorem dX8_gives_1 : decode cX8_gives 1 = .ok (.iload_n 1, 1) := by decide +kernel
theorem dX8_gives_2 : decode cX8_gives 2 = .ok (.iload_n 2, 1) := by decide +kernel
theorem dX8_gives_3 : decode cX8_gives 3 = .ok (.iload_n 3, 1) := by decide +kernel
theorem dX8_gives_4 : decode cX8_gives 4 = .ok (.i2l, 1) := by decide +kernel
theorem dX8_gives_5 : decode cX8_gives 5 = .ok (.invokevirtual 172, 3) := by decide +kernel
theorem dX8_gives_8 : decode cX8_gives 8 = .ok (.lstore 4, 2) := by decide +kernel
theorem dX8_gives_10 : decode cX8_gives 10 = .ok (.iload_n 3, 1) := by decide +kernel
theorem dX8_gives_11 : decode cX8_gives 11 = .ok (.i2l, 1) := by decide +kernel
theorem dX8_gives_12 : decode cX8_gives 12 = .ok (.lstore 6, 2) := by decide +kernel
theorem dX8_gives_14 : decode cX8_gives 14 = .ok (.aload_n 0, 1) := by decide +kernel
theorem dX8_gives_15 : decode cX8_gives 15 = .ok (.iload_n 1, 1) := by decide +kernel
theorem dX8_gives_16 : decode cX8_gives 16 = .ok (.iload_n 2, 1) := by decide +kernel
theorem dX8_gives_17 : decode cX8_gives 17 = .ok (.invokevirtual 176, 3) := by decide +kernel
theorem dX8_gives_20 : decode cX8_gives 20 = .ok (.istore 8, 2) := by decide +kernel
theorem dX8_gives_22 : decode cX8_gives 22 = .ok (.lload 6, 2) := by decide +kernel
theorem dX8_gives_24 : decode cX8_gives 24 = .ok (.lconst 0, 1) := by decide +kernel
theorem dX8_gives_25 : decode cX8_gives 25 = .ok (.lcmp, 1) := by decide +kernel
theorem dX8_gives_26 : decode cX8_gives 26 = .ok (.ifCond .le 65, 3) := by decide +kernel
theorem dX8_gives_29 : decode cX8_gives 29 = .ok (.iload 8, 2) := by decide +kernel
theorem dX8_gives_31 : decode cX8_gives 31 = .ok (.ifCond .lt 60, 3) := by decide +kernel
theorem dX8_gives_34 : decode cX8_gives 34 = .ok (.aload_n 0, 1) := by decide +kernel
theorem dX8_gives_35 : decode cX8_gives 35 = .ok (.getfield 41, 3) := by decide +kernel
theorem dX8_gives_38 : decode cX8_gives 38 = .ok (.iload 8, 2) := by decide +kernel
theorem dX8_gives_40 : decode cX8_gives 40 = .ok (.laload, 1) := by decide +kernel
theorem dX8_gives_41 : decode cX8_gives 41 = .ok (.lload 6, 2) := by decide +kernel
theorem dX8_gives_43 : decode cX8_gives 43 = .ok (.lcmp, 1) := by decide +kernel
theorem dX8_gives_44 : decode cX8_gives 44 = .ok (.ifCond .ge 13, 3) := by decide +kernel
theorem dX8_gives_47 : decode cX8_gives 47 = .ok (.aload_n 0, 1) := by decide +kernel
theorem dX8_gives_48 : decode cX8_gives 48 = .ok (.getfield 41, 3) := by decide +kernel
theorem dX8_gives_51 : decode cX8_gives 51 = .ok (.iload 8, 2) := by decide +kernel
theorem dX8_gives_53 : decode cX8_gives 53 = .ok (.laload, 1) := by decide +kernel
theorem dX8_gives_54 : decode cX8_gives 54 = .ok (.goto 5, 3) := by decide +kernel
theorem dX8_gives_57 : decode cX8_gives 57 = .ok (.lload 6, 2) := by decide +kernel
theorem dX8_gives_59 : decode cX8_gives 59 = .ok (.lstore 9, 2) := by decide +kernel
theorem dX8_gives_61 : decode cX8_gives 61 = .ok (.aload_n 0, 1) := by decide +kernel
theorem dX8_gives_62 : decode cX8_gives 62 = .ok (.getfield 41, 3) := by decide +kernel
theorem dX8_gives_65 : decode cX8_gives 65 = .ok (.iload 8, 2) := by decide +kernel
theorem dX8_gives_67 : decode cX8_gives 67 = .ok (.dup2, 1) := by decide +kernel
theorem dX8_gives_68 : decode cX8_gives 68 = .ok (.laload, 1) := by decide +kernel
theorem dX8_gives_69 : decode cX8_gives 69 = .ok (.lload 9, 2) := by decide +kernel
theorem dX8_gives_71 : decode cX8_gives 71 = .ok (.lsub, 1) := by decide +kernel
theorem dX8_gives_72 : decode cX8_gives 72 = .ok (.lastore, 1) := by decide +kernel
theorem dX8_gives_73 : decode cX8_gives 73 = .ok (.lload 6, 2) := by decide +kernel
theorem dX8_gives_75 : decode cX8_gives 75 = .ok (.lload 9, 2) := by decide +kernel
theorem dX8_gives_77 : decode cX8_gives 77 = .ok (.lsub, 1) := by decide +kernel
theorem dX8_gives_78 : decode cX8_gives 78 = .ok (.lstore 6, 2) := by decide +kernel
theorem dX8_gives_80 : decode cX8_gives 80 = .ok (.aload_n 0, 1) := by decide +kernel
theorem dX8_gives_81 : decode cX8_gives 81 = .ok (.iload_n 1, 1) := by decide +kernel
theorem dX8_gives_82 : decode cX8_gives 82 = .ok (.iload_n 2, 1) := by decide +kernel
theorem dX8_gives_83 : decode cX8_gives 83 = .ok (.invokevirtual 176, 3) := by decide +kernel
theorem dX8_gives_86 : decode cX8_gives 86 = .ok (.istore 8, 2) := by decide +kernel
theorem dX8_gives_88 : decode cX8_gives 88 = .ok (.goto (-66), 3) := by decide +kernel
theorem dX8_gives_91 : decode cX8_gives 91 = .ok (.lload 4, 2) := by decide +kernel
theorem dX8_gives_93 : decode cX8_gives 93 = .ok (.lconst 0, 1) := by decide +kernel
theorem dX8_gives_94 : decode cX8_gives 94 = .ok (.lcmp, 1) := by decide +kernel
theorem dX8_gives_95 : decode cX8_gives 95 = .ok (.ifCond .le 22, 3) := by decide +kernel
theorem dX8_gives_98 : decode cX8_gives 98 = .ok (.aload_n 0, 1) := by decide +kernel
theorem dX8_gives_99 : decode cX8_gives 99 = .ok (.iload_n 2, 1) := by decide +kernel
theorem dX8_gives_100 : decode cX8_gives 100 = .ok (.iload_n 1, 1) := by decide +kernel
theorem dX8_gives_101 : decode cX8_gives 101 = .ok (.lload 4, 2) := by decide +kernel
theorem dX8_gives_103 : decode cX8_gives 103 = .ok (.iconst 0, 1) := by decide +kernel
theorem dX8_gives_104 : decode cX8_gives 104 = .ok (.aload_n 0, 1) := by decide +kernel
theorem dX8_gives_105 : decode cX8_gives 105 = .ok (.getfield 157, 3) := by decide +kernel
theorem dX8_gives_108 : decode cX8_gives 108 = .ok (.aload_n 0, 1) := by decide +kernel
theorem dX8_gives_109 : decode cX8_gives 109 = .ok (.iconst 2, 1) := by decide +kernel
theorem dX8_gives_110 : decode cX8_gives 110 = .ok (.invokevirtual 167, 3) := by decide +kernel
theorem dX8_gives_113 : decode cX8_gives 113 = .ok (.iadd, 1) := by decide +kernel
theorem dX8_gives_114 : decode cX8_gives 114 = .ok (.invokevirtual 180, 3) := by decide +kernel
theorem dX8_gives_117 : decode cX8_gives 117 = .ok (.aload_n 0, 1) := by decide +kernel
theorem dX8_gives_118 : decode cX8_gives 118 = .ok (.getfield 13, 3) := by decide +kernel
theorem dX8_gives_121 : decode cX8_gives 121 = .ok (.iload_n 1, 1) := by decide +kernel
theorem dX8_gives_122 : decode cX8_gives 122 = .ok (.dup2, 1) := by decide +kernel
theorem dX8_gives_123 : decode cX8_gives 123 = .ok (.laload, 1) := by decide +kernel
theorem dX8_gives_124 : decode cX8_gives 124 = .ok (.iload_n 3, 1) := by decide +kernel
theorem dX8_gives_125 : decode cX8_gives 125 = .ok (.i2l, 1) := by decide +kernel
theorem dX8_gives_126 : decode cX8_gives 126 = .ok (.ladd, 1) := by decide +kernel
theorem dX8_gives_127 : decode cX8_gives 127 = .ok (.lastore, 1) := by decide +kernel
theorem dX8_gives_128 : decode cX8_gives 128 = .ok (.iload_n 3, 1) := by decide +kernel
theorem dX8_gives_129 : decode cX8_gives 129 = .ok (.lload 6, 2) := by decide +kernel
theorem dX8_gives_131 : decode cX8_gives 131 = .ok (.l2i, 1) := by decide +kernel
theorem dX8_gives_132 : decode cX8_gives 132 = .ok (.isub, 1) := by decide +kernel
theorem dX8_gives_133 : decode cX8_gives 133 = .ok (.ireturn, 1) := by decide +kernel
set_option maxRecDepth 20000 in
theorem ggX8_isPair_X8_isChief : GoodIn wsX8_isPair wsX8_isChief := goodIn_r _ [6, 7, 13, 14, 15, 16, 17, 18, 19, 20, 21, 22, 23, 24, 25, 26, 27, 28, 29, 30, 31, 32, 33, 34, 35, 36, 37, 38, 39, 40, 41, 42, 43] (by decide +kernel) (by decide +kernel)
set_option maxRecDepth 20000 in
theorem gX8_isPair_X8_isChief : GoodIn wsX8_isPair (wsV RX8 184 RX8 yX8_isChief wsX8_isChief) := goodIn_app (goodIn_of _ (by decide +kernel)) ggX8_isPair_X8_isChief
set_option maxRecDepth 20000 in
theorem ggX8_isPair_X8_bad : GoodIn wsX8_isPair wsX8_bad := goodIn_r _ [11, 12, 13, 14, 15, 16, 17, 18, 19, 20, 21, 22, 23, 24, 25, 26, 27, 28, 29, 30, 31, 32, 33, 34, 35, 36, 37, 38, 39, 40, 41, 42, 43] (by decide +kernel) (by decide +kernel)
set_option maxRecDepth 20000 in
theorem gX8_isPair_X8_bad : GoodIn wsX8_isPair (wsV RX8 78 RX8 yX8_bad wsX8_bad) := goodIn_app (goodIn_of _ (by decide +kernel)) ggX8_isPair_X8_bad
theorem dX8_isPair_0 : decode cX8_isPair 0 = .ok (.aload_n 0, 1) := by decide +kernel
theorem dX8_isPair_1 : decode cX8_isPair 1 = .ok (.aload_n 0, 1) := by decide +kernel
theorem dX8_isPair_2 : decode cX8_isPair 2 = .ok (.iload_n 1, 1) := by decide +kernel
theorem dX8_isPair_3 : decode cX8_isPair 3 = .ok (.invokevirtual 184, 3) := by decide +kernel
theorem dX8_isPair_6 : decode cX8_isPair 6 = .ok (.ifCond .eq 11, 3) := by decide +kernel
theorem dX8_isPair_9 : decode cX8_isPair 9 = .ok (.aload_n 0, 1) := by decide +kernel
theorem dX8_isPair_10 : decode cX8_isPair 10 = .ok (.iload_n 2, 1) := by decide +kernel
theorem dX8_isPair_11 : decode cX8_isPair 11 = .ok (.invokevirtual 184, 3) := by decide +kernel
theorem dX8_isPair_14 : decode cX8_isPair 14 = .ok (.ifCond .ne 7, 3) := by decide +kernel
theorem dX8_isPair_17 : decode cX8_isPair 17 = .ok (.iconst 1, 1) := by decide +kernel
theorem dX8_isPair_18 : decode cX8_isPair 18 = .ok (.goto 4, 3) := by decide +kernel
theorem dX8_isPair_21 : decode cX8_isPair 21 = .ok (.iconst 0, 1) := by decide +kernel
theorem dX8_isPair_22 : decode cX8_isPair 22 = .ok (.iconst 1, 1) := by decide +kernel
theorem dX8_isPair_23 : decode cX8_isPair 23 = .ok (.invokevirtual 78, 3) := by decide +kernel
theorem dX8_isPair_26 : decode cX8_isPair 26 = .ok (.ifCond .ne 61, 3) := by decide +kernel
theorem dX8_isPair_29 : decode cX8_isPair 29 = .ok (.aload_n 0, 1) := by decide +kernel
theorem dX8_isPair_30 : decode cX8_isPair 30 = .ok (.iload_n 1, 1) := by decide +kernel
theorem dX8_isPair_31 : decode cX8_isPair 31 = .ok (.iload_n 2, 1) := by decide +kernel
theorem dX8_isPair_32 : decode cX8_isPair 32 = .ok (.if_icmp .eq 8, 3) := by decide +kernel
theorem dX8_isPair_35 : decode cX8_isPair 35 = .ok (.iload_n 3, 1) := by decide +kernel
theorem dX8_isPair_36 : decode cX8_isPair 36 = .ok (.iconst 1, 1) := by decide +kernel
theorem dX8_isPair_37 : decode cX8_isPair 37 = .ok (.if_icmp .ge 7, 3) := by decide +kernel
theorem dX8_isPair_40 : decode cX8_isPair 40 = .ok (.iconst 1, 1) := by decide +kernel
theorem dX8_isPair_41 : decode cX8_isPair 41 = .ok (.goto 4, 3) := by decide +kernel
theorem dX8_isPair_44 : decode cX8_isPair 44 = .ok (.iconst 0, 1) := by decide +kernel
theorem dX8_isPair_45 : decode cX8_isPair 45 = .ok (.iconst 2, 1) := by decide +kernel
theorem dX8_isPair_46 : decode cX8_isPair 46 = .ok (.invokevirtual 78, 3) := by decide +kernel
theorem dX8_isPair_49 : decode cX8_isPair 49 = .ok (.ifCond .ne 38, 3) := by decide +kernel
theorem dX8_isPair_52 : decode cX8_isPair 52 = .ok (.aload_n 0, 1) := by decide +kernel
theorem dX8_isPair_53 : decode cX8_isPair 53 = .ok (.aload_n 0, 1) := by decide +kernel
theorem dX8_isPair_54 : decode cX8_isPair 54 = .ok (.getfield 17, 3) := by decide +kernel
theorem dX8_isPair_57 : decode cX8_isPair 57 = .ok (.iload_n 1, 1) := by decide +kernel
theorem dX8_isPair_58 : decode cX8_isPair 58 = .ok (.baload, 1) := by decide +kernel
theorem dX8_isPair_59 : decode cX8_isPair 59 = .ok (.ifCond .ne 12, 3) := by decide +kernel
theorem dX8_isPair_62 : decode cX8_isPair 62 = .ok (.aload_n 0, 1) := by decide +kernel
theorem dX8_isPair_63 : decode cX8_isPair 63 = .ok (.getfield 17, 3) := by decide +kernel
theorem dX8_isPair_66 : decode cX8_isPair 66 = .ok (.iload_n 2, 1) := by decide +kernel
theorem dX8_isPair_67 : decode cX8_isPair 67 = .ok (.baload, 1) := by decide +kernel
theorem dX8_isPair_68 : decode cX8_isPair 68 = .ok (.ifCond .eq 7, 3) := by decide +kernel
theorem dX8_isPair_71 : decode cX8_isPair 71 = .ok (.iconst 1, 1) := by decide +kernel
theorem dX8_isPair_72 : decode cX8_isPair 72 = .ok (.goto 4, 3) := by decide +kernel
theorem dX8_isPair_75 : decode cX8_isPair 75 = .ok (.iconst 0, 1) := by decide +kernel
theorem dX8_isPair_76 : decode cX8_isPair 76 = .ok (.iconst 3, 1) := by decide +kernel
theorem dX8_isPair_77 : decode cX8_isPair 77 = .ok (.invokevirtual 78, 3) := by decide +kernel
theorem dX8_isPair_80 : decode cX8_isPair 80 = .ok (.ifCond .ne 7, 3) := by decide +kernel
theorem dX8_isPair_83 : decode cX8_isPair 83 = .ok (.iconst 1, 1) := by decide +kernel
theorem dX8_isPair_84 : decode cX8_isPair 84 = .ok (.goto 4, 3) := by decide +kernel
theorem dX8_isPair_87 : decode cX8_isPair 87 = .ok (.iconst 0, 1) := by decide +kernel
theorem dX8_isPair_88 : decode cX8_isPair 88 = .ok (.ireturn, 1) := by decide +kernel
set_option maxRecDepth 20000 in
theorem ggX8_give_X8_isPair : GoodIn wsX8_give wsX8_isPair := goodIn_r _ [8, 9, 10, 11, 12, 7, 13, 14, 15, 16, 17, 18, 1, 58, 59, 60, 61, 62, 63, 64, 65, 66, 67, 68, 69, 70, 71, 72, 73, 74, 75, 76, 77, 78, 79, 80, 81, 82, 83, 84, 85, 86, 87, 88] (by decide +kernel) (by decide +kernel)
set_option maxRecDepth 20000 in
theorem gX8_give_X8_isPair : GoodIn wsX8_give (wsV RX8 187 RX8 yX8_isPair wsX8_isPair) := goodIn_app (goodIn_of _ (by decide +kernel)) ggX8_give_X8_isPair
set_option maxRecDepth 20000 in
theorem ggX8_give_X8_madeOf : GoodIn wsX8_give wsX8_madeOf := goodIn_r _ [22, 23, 24, 25, 26, 7, 27, 3, 28, 29, 30, 31, 32, 33, 34, 35, 36, 37, 38, 39, 40, 41, 42, 58, 59, 60, 61, 62, 63, 64, 65, 66, 67, 68, 69, 70, 71, 72, 73, 74, 75, 76, 77, 78, 79, 80, 81, 82, 83, 84, 85, 86, 87, 88] (by decide +kernel) (by decide +kernel)
set_option maxRecDepth 20000 in
theorem gX8_give_X8_madeOf : GoodIn wsX8_give (wsV RX8 172 RX8 yX8_madeOf wsX8_madeOf) := goodIn_app (goodIn_of _ (by decide +kernel)) ggX8_give_X8_madeOf
set_option maxRecDepth 20000 in
theorem ggX8_give_X8_gives : GoodIn wsX8_give wsX8_gives := goodIn_r _ [46, 30, 35, 47, 19, 20, 21, 7, 22, 23, 24, 25, 26, 27, 3, 28, 29, 31, 32, 33, 34, 36, 37, 38, 39, 40, 41, 42, 48, 49, 50, 51, 52, 53, 54, 55, 56, 57, 58, 59, 60, 61, 62, 63, 64, 65, 66, 67, 68, 69, 70, 71, 72, 73, 74, 75, 76, 77, 78, 79, 80, 81, 82, 83, 84, 85, 86, 87, 88] (by decide +kernel) (by decide +kernel)
set_option maxRecDepth 20000 in
theorem gX8_give_X8_gives : GoodIn wsX8_give (wsV RX8 191 RX8 yX8_gives wsX8_gives) := goodIn_app (goodIn_of _ (by decide +kernel)) ggX8_give_X8_gives
theorem dX8_give_0 : decode cX8_give 0 = .ok (.aload_n 0, 1) := by decide +kernel
theorem dX8_give_1 : decode cX8_give 1 = .ok (.iconst 0, 1) := by decide +kernel
theorem dX8_give_2 : decode cX8_give 2 = .ok (.putfield 74, 3) := by decide +kernel
theorem dX8_give_5 : decode cX8_give 5 = .ok (.aload_n 0, 1) := by decide +kernel
theorem dX8_give_6 : decode cX8_give 6 = .ok (.iload_n 1, 1) := by decide +kernel
theorem dX8_give_7 : decode cX8_give 7 = .ok (.iload_n 2, 1) := by decide +kernel
theorem dX8_give_8 : decode cX8_give 8 = .ok (.iload_n 3, 1) := by decide +kernel
theorem dX8_give_9 : decode cX8_give 9 = .ok (.invokevirtual 187, 3) := by decide +kernel
theorem dX8_give_12 : decode cX8_give 12 = .ok (.ifCond .ne 5, 3) := by decide +kernel
theorem dX8_give_15 : decode cX8_give 15 = .ok (.iconst 0, 1) := by decide +kernel
theorem dX8_give_16 : decode cX8_give 16 = .ok (.ireturn, 1) := by decide +kernel
theorem dX8_give_17 : decode cX8_give 17 = .ok (.aload_n 0, 1) := by decide +kernel
theorem dX8_give_18 : decode cX8_give 18 = .ok (.getfield 9, 3) := by decide +kernel
theorem dX8_give_21 : decode cX8_give 21 = .ok (.iload_n 1, 1) := by decide +kernel
theorem dX8_give_22 : decode cX8_give 22 = .ok (.iaload, 1) := by decide +kernel
theorem dX8_give_23 : decode cX8_give 23 = .ok (.iload_n 3, 1) := by decide +kernel
theorem dX8_give_24 : decode cX8_give 24 = .ok (.if_icmp .ge 5, 3) := by decide +kernel
theorem dX8_give_27 : decode cX8_give 27 = .ok (.iconst (-1), 1) := by decide +kernel
theorem dX8_give_28 : decode cX8_give 28 = .ok (.ireturn, 1) := by decide +kernel
theorem dX8_give_29 : decode cX8_give 29 = .ok (.aload_n 0, 1) := by decide +kernel
theorem dX8_give_30 : decode cX8_give 30 = .ok (.getfield 160, 3) := by decide +kernel
theorem dX8_give_33 : decode cX8_give 33 = .ok (.sipush 400, 3) := by decide +kernel
theorem dX8_give_36 : decode cX8_give 36 = .ok (.if_icmp .ne 19, 3) := by decide +kernel
theorem dX8_give_39 : decode cX8_give 39 = .ok (.aload_n 0, 1) := by decide +kernel
theorem dX8_give_40 : decode cX8_give 40 = .ok (.iload_n 1, 1) := by decide +kernel
theorem dX8_give_41 : decode cX8_give 41 = .ok (.iload_n 2, 1) := by decide +kernel
theorem dX8_give_42 : decode cX8_give 42 = .ok (.iload_n 3, 1) := by decide +kernel
theorem dX8_give_43 : decode cX8_give 43 = .ok (.i2l, 1) := by decide +kernel
theorem dX8_give_44 : decode cX8_give 44 = .ok (.invokevirtual 172, 3) := by decide +kernel
theorem dX8_give_47 : decode cX8_give 47 = .ok (.lconst 0, 1) := by decide +kernel
theorem dX8_give_48 : decode cX8_give 48 = .ok (.lcmp, 1) := by decide +kernel
theorem dX8_give_49 : decode cX8_give 49 = .ok (.ifCond .le 6, 3) := by decide +kernel
theorem dX8_give_52 : decode cX8_give 52 = .ok (.bipush (-2), 2) := by decide +kernel
theorem dX8_give_54 : decode cX8_give 54 = .ok (.ireturn, 1) := by decide +kernel
theorem dX8_give_55 : decode cX8_give 55 = .ok (.aload_n 0, 1) := by decide +kernel
theorem dX8_give_56 : decode cX8_give 56 = .ok (.getfield 9, 3) := by decide +kernel
theorem dX8_give_59 : decode cX8_give 59 = .ok (.iload_n 1, 1) := by decide +kernel
theorem dX8_give_60 : decode cX8_give 60 = .ok (.dup2, 1) := by decide +kernel
theorem dX8_give_61 : decode cX8_give 61 = .ok (.iaload, 1) := by decide +kernel
theorem dX8_give_62 : decode cX8_give 62 = .ok (.iload_n 3, 1) := by decide +kernel
theorem dX8_give_63 : decode cX8_give 63 = .ok (.isub, 1) := by decide +kernel
theorem dX8_give_64 : decode cX8_give 64 = .ok (.iastore, 1) := by decide +kernel
theorem dX8_give_65 : decode cX8_give 65 = .ok (.aload_n 0, 1) := by decide +kernel
theorem dX8_give_66 : decode cX8_give 66 = .ok (.getfield 9, 3) := by decide +kernel
theorem dX8_give_69 : decode cX8_give 69 = .ok (.iload_n 2, 1) := by decide +kernel
theorem dX8_give_70 : decode cX8_give 70 = .ok (.dup2, 1) := by decide +kernel
theorem dX8_give_71 : decode cX8_give 71 = .ok (.iaload, 1) := by decide +kernel
theorem dX8_give_72 : decode cX8_give 72 = .ok (.iload_n 3, 1) := by decide +kernel
theorem dX8_give_73 : decode cX8_give 73 = .ok (.iadd, 1) := by decide +kernel
theorem dX8_give_74 : decode cX8_give 74 = .ok (.iastore, 1) := by decide +kernel
theorem dX8_give_75 : decode cX8_give 75 = .ok (.aload_n 0, 1) := by decide +kernel
theorem dX8_give_76 : decode cX8_give 76 = .ok (.iload_n 1, 1) := by decide +kernel
theorem dX8_give_77 : decode cX8_give 77 = .ok (.iload_n 2, 1) := by decide +kernel
theorem dX8_give_78 : decode cX8_give 78 = .ok (.iload_n 3, 1) := by decide +kernel
theorem dX8_give_79 : decode cX8_give 79 = .ok (.invokevirtual 191, 3) := by decide +kernel
theorem dX8_give_82 : decode cX8_give 82 = .ok (.ireturn, 1) := by decide +kernel
set_option maxRecDepth 20000 in
theorem ggX8_lend_X8_isPair : GoodIn wsX8_lend wsX8_isPair := goodIn_r _ [8, 9, 10, 11, 12, 7, 13, 14, 15, 16, 17, 18, 1, 28, 29, 30, 31, 32, 33, 34, 35, 36, 37, 38, 39, 40, 41, 42, 43, 44, 45, 46, 47, 48, 49, 50, 51, 52, 53, 54, 55, 56, 57, 58] (by decide +kernel) (by decide +kernel)
set_option maxRecDepth 20000 in
theorem gX8_lend_X8_isPair : GoodIn wsX8_lend (wsV RX8 187 RX8 yX8_isPair wsX8_isPair) := goodIn_app (goodIn_of _ (by decide +kernel)) ggX8_lend_X8_isPair
set_option maxRecDepth 20000 in
theorem ggX8_lend_X8_owe : GoodIn wsX8_lend wsX8_owe := goodIn_r _ [22, 23, 3, 24, 25, 26, 27, 28, 29, 30, 31, 32, 33, 34, 35, 36, 37, 38, 39, 40, 41, 42, 43, 44, 45, 46, 47, 48, 49, 50, 51, 52, 53, 54, 55, 56, 57, 58] (by decide +kernel) (by decide +kernel)
set_option maxRecDepth 20000 in
theorem gX8_lend_X8_owe : GoodIn wsX8_lend (wsV RX8 180 RX8 yX8_owe wsX8_owe) := goodIn_app (goodIn_of _ (by decide +kernel)) ggX8_lend_X8_owe
theorem dX8_lend_0 : decode cX8_lend 0 = .ok (.aload_n 0, 1) := by decide +kernel
theorem dX8_lend_1 : decode cX8_lend 1 = .ok (.iconst 0, 1) := by decide +kernel
theorem dX8_lend_2 : decode cX8_lend 2 = .ok (.putfield 74, 3) := by decide +kernel
theorem dX8_lend_5 : decode cX8_lend 5 = .ok (.aload_n 0, 1) := by decide +kernel
theorem dX8_lend_6 : decode cX8_lend 6 = .ok (.iload_n 1, 1) := by decide +kernel
theorem dX8_lend_7 : decode cX8_lend 7 = .ok (.iload_n 2, 1) := by decide +kernel
theorem dX8_lend_8 : decode cX8_lend 8 = .ok (.iload_n 3, 1) := by decide +kernel
theorem dX8_lend_9 : decode cX8_lend 9 = .ok (.invokevirtual 187, 3) := by decide +kernel
theorem dX8_lend_12 : decode cX8_lend 12 = .ok (.ifCond .ne 5, 3) := by decide +kernel
theorem dX8_lend_15 : decode cX8_lend 15 = .ok (.iconst 0, 1) := by decide +kernel
theorem dX8_lend_16 : decode cX8_lend 16 = .ok (.ireturn, 1) := by decide +kernel
theorem dX8_lend_17 : decode cX8_lend 17 = .ok (.aload_n 0, 1) := by decide +kernel
theorem dX8_lend_18 : decode cX8_lend 18 = .ok (.getfield 9, 3) := by decide +kernel
theorem dX8_lend_21 : decode cX8_lend 21 = .ok (.iload_n 1, 1) := by decide +kernel
theorem dX8_lend_22 : decode cX8_lend 22 = .ok (.iaload, 1) := by decide +kernel
theorem dX8_lend_23 : decode cX8_lend 23 = .ok (.iload_n 3, 1) := by decide +kernel
theorem dX8_lend_24 : decode cX8_lend 24 = .ok (.if_icmp .ge 5, 3) := by decide +kernel
theorem dX8_lend_27 : decode cX8_lend 27 = .ok (.iconst (-1), 1) := by decide +kernel
theorem dX8_lend_28 : decode cX8_lend 28 = .ok (.ireturn, 1) := by decide +kernel
theorem dX8_lend_29 : decode cX8_lend 29 = .ok (.aload_n 0, 1) := by decide +kernel
theorem dX8_lend_30 : decode cX8_lend 30 = .ok (.getfield 160, 3) := by decide +kernel
theorem dX8_lend_33 : decode cX8_lend 33 = .ok (.sipush 400, 3) := by decide +kernel
theorem dX8_lend_36 : decode cX8_lend 36 = .ok (.if_icmp .ne 6, 3) := by decide +kernel
theorem dX8_lend_39 : decode cX8_lend 39 = .ok (.bipush (-2), 2) := by decide +kernel
theorem dX8_lend_41 : decode cX8_lend 41 = .ok (.ireturn, 1) := by decide +kernel
theorem dX8_lend_42 : decode cX8_lend 42 = .ok (.aload_n 0, 1) := by decide +kernel
theorem dX8_lend_43 : decode cX8_lend 43 = .ok (.getfield 9, 3) := by decide +kernel
theorem dX8_lend_46 : decode cX8_lend 46 = .ok (.iload_n 1, 1) := by decide +kernel
theorem dX8_lend_47 : decode cX8_lend 47 = .ok (.dup2, 1) := by decide +kernel
theorem dX8_lend_48 : decode cX8_lend 48 = .ok (.iaload, 1) := by decide +kernel
theorem dX8_lend_49 : decode cX8_lend 49 = .ok (.iload_n 3, 1) := by decide +kernel
theorem dX8_lend_50 : decode cX8_lend 50 = .ok (.isub, 1) := by decide +kernel
theorem dX8_lend_51 : decode cX8_lend 51 = .ok (.iastore, 1) := by decide +kernel
theorem dX8_lend_52 : decode cX8_lend 52 = .ok (.aload_n 0, 1) := by decide +kernel
theorem dX8_lend_53 : decode cX8_lend 53 = .ok (.getfield 9, 3) := by decide +kernel
theorem dX8_lend_56 : decode cX8_lend 56 = .ok (.iload_n 2, 1) := by decide +kernel
theorem dX8_lend_57 : decode cX8_lend 57 = .ok (.dup2, 1) := by decide +kernel
theorem dX8_lend_58 : decode cX8_lend 58 = .ok (.iaload, 1) := by decide +kernel
theorem dX8_lend_59 : decode cX8_lend 59 = .ok (.iload_n 3, 1) := by decide +kernel
theorem dX8_lend_60 : decode cX8_lend 60 = .ok (.iadd, 1) := by decide +kernel
theorem dX8_lend_61 : decode cX8_lend 61 = .ok (.iastore, 1) := by decide +kernel
theorem dX8_lend_62 : decode cX8_lend 62 = .ok (.aload_n 0, 1) := by decide +kernel
theorem dX8_lend_63 : decode cX8_lend 63 = .ok (.iload_n 2, 1) := by decide +kernel
theorem dX8_lend_64 : decode cX8_lend 64 = .ok (.iload_n 1, 1) := by decide +kernel
theorem dX8_lend_65 : decode cX8_lend 65 = .ok (.iload_n 3, 1) := by decide +kernel
theorem dX8_lend_66 : decode cX8_lend 66 = .ok (.i2l, 1) := by decide +kernel
theorem dX8_lend_67 : decode cX8_lend 67 = .ok (.iconst 1, 1) := by decide +kernel
theorem dX8_lend_68 : decode cX8_lend 68 = .ok (.iconst (-1), 1) := by decide +kernel
theorem dX8_lend_69 : decode cX8_lend 69 = .ok (.invokevirtual 180, 3) := by decide +kernel
theorem dX8_lend_72 : decode cX8_lend 72 = .ok (.aload_n 0, 1) := by decide +kernel
theorem dX8_lend_73 : decode cX8_lend 73 = .ok (.getfield 160, 3) := by decide +kernel
theorem dX8_lend_76 : decode cX8_lend 76 = .ok (.iconst 1, 1) := by decide +kernel
theorem dX8_lend_77 : decode cX8_lend 77 = .ok (.isub, 1) := by decide +kernel
theorem dX8_lend_78 : decode cX8_lend 78 = .ok (.ireturn, 1) := by decide +kernel
set_option maxRecDepth 20000 in
theorem ggX8_copper_X8_isChief : GoodIn wsX8_copper wsX8_isChief := goodIn_r _ [12, 13, 18, 19, 20, 21, 22, 23, 24, 25, 26, 27, 28, 29, 30, 31, 32, 33, 34, 35, 36, 37, 38, 39, 40, 41, 42, 43, 44, 45, 46, 47, 48] (by decide +kernel) (by decide +kernel)
set_option maxRecDepth 20000 in
theorem gX8_copper_X8_isChief : GoodIn wsX8_copper (wsV RX8 184 RX8 yX8_isChief wsX8_isChief) := goodIn_app (goodIn_of _ (by decide +kernel)) ggX8_copper_X8_isChief
set_option maxRecDepth 20000 in
theorem ggX8_copper_X8_bad : GoodIn wsX8_copper wsX8_bad := goodIn_r _ [17, 1, 18, 19, 20, 21, 22, 23, 24, 25, 26, 27, 28, 29, 30, 31, 32, 33, 34, 35, 36, 37, 38, 39, 40, 41, 42, 43, 44, 45, 46, 47, 48] (by decide +kernel) (by decide +kernel)
set_option maxRecDepth 20000 in
theorem gX8_copper_X8_bad : GoodIn wsX8_copper (wsV RX8 78 RX8 yX8_bad wsX8_bad) := goodIn_app (goodIn_of _ (by decide +kernel)) ggX8_copper_X8_bad
theorem dX8_copper_0 : decode cX8_copper 0 = .ok (.aload_n 0, 1) := by decide +kernel
theorem dX8_copper_1 : decode cX8_copper 1 = .ok (.iconst 0, 1) := by decide +kernel
theorem dX8_copper_2 : decode cX8_copper 2 = .ok (.putfield 74, 3) := by decide +kernel
theorem dX8_copper_5 : decode cX8_copper 5 = .ok (.aload_n 0, 1) := by decide +kernel
theorem dX8_copper_6 : decode cX8_copper 6 = .ok (.aload_n 0, 1) := by decide +kernel
theorem dX8_copper_7 : decode cX8_copper 7 = .ok (.iload_n 1, 1) := by decide +kernel
theorem dX8_copper_8 : decode cX8_copper 8 = .ok (.invokevirtual 184, 3) := by decide +kernel
theorem dX8_copper_11 : decode cX8_copper 11 = .ok (.ifCond .ne 7, 3) := by decide +kernel
theorem dX8_copper_14 : decode cX8_copper 14 = .ok (.iconst 1, 1) := by decide +kernel
theorem dX8_copper_15 : decode cX8_copper 15 = .ok (.goto 4, 3) := by decide +kernel
theorem dX8_copper_18 : decode cX8_copper 18 = .ok (.iconst 0, 1) := by decide +kernel
theorem dX8_copper_19 : decode cX8_copper 19 = .ok (.iconst 1, 1) := by decide +kernel
theorem dX8_copper_20 : decode cX8_copper 20 = .ok (.invokevirtual 78, 3) := by decide +kernel
theorem dX8_copper_23 : decode cX8_copper 23 = .ok (.ifCond .ne 58, 3) := by decide +kernel
theorem dX8_copper_26 : decode cX8_copper 26 = .ok (.aload_n 0, 1) := by decide +kernel
theorem dX8_copper_27 : decode cX8_copper 27 = .ok (.iload_n 2, 1) := by decide +kernel
theorem dX8_copper_28 : decode cX8_copper 28 = .ok (.iconst 1, 1) := by decide +kernel
theorem dX8_copper_29 : decode cX8_copper 29 = .ok (.if_icmp .lt 9, 3) := by decide +kernel
theorem dX8_copper_32 : decode cX8_copper 32 = .ok (.iload_n 2, 1) := by decide +kernel
theorem dX8_copper_33 : decode cX8_copper 33 = .ok (.ldc 77, 2) := by decide +kernel
theorem dX8_copper_35 : decode cX8_copper 35 = .ok (.if_icmp .le 7, 3) := by decide +kernel
theorem dX8_copper_38 : decode cX8_copper 38 = .ok (.iconst 1, 1) := by decide +kernel
theorem dX8_copper_39 : decode cX8_copper 39 = .ok (.goto 4, 3) := by decide +kernel
theorem dX8_copper_42 : decode cX8_copper 42 = .ok (.iconst 0, 1) := by decide +kernel
theorem dX8_copper_43 : decode cX8_copper 43 = .ok (.iconst 2, 1) := by decide +kernel
theorem dX8_copper_44 : decode cX8_copper 44 = .ok (.invokevirtual 78, 3) := by decide +kernel
theorem dX8_copper_47 : decode cX8_copper 47 = .ok (.ifCond .ne 34, 3) := by decide +kernel
theorem dX8_copper_50 : decode cX8_copper 50 = .ok (.aload_n 0, 1) := by decide +kernel
theorem dX8_copper_51 : decode cX8_copper 51 = .ok (.aload_n 0, 1) := by decide +kernel
theorem dX8_copper_52 : decode cX8_copper 52 = .ok (.getfield 17, 3) := by decide +kernel
theorem dX8_copper_55 : decode cX8_copper 55 = .ok (.iload_n 1, 1) := by decide +kernel
theorem dX8_copper_56 : decode cX8_copper 56 = .ok (.baload, 1) := by decide +kernel
theorem dX8_copper_57 : decode cX8_copper 57 = .ok (.ifCond .ne 12, 3) := by decide +kernel
theorem dX8_copper_60 : decode cX8_copper 60 = .ok (.aload_n 0, 1) := by decide +kernel
theorem dX8_copper_61 : decode cX8_copper 61 = .ok (.getfield 195, 3) := by decide +kernel
theorem dX8_copper_64 : decode cX8_copper 64 = .ok (.bipush 30, 2) := by decide +kernel
theorem dX8_copper_66 : decode cX8_copper 66 = .ok (.if_icmp .ne 7, 3) := by decide +kernel
theorem dX8_copper_69 : decode cX8_copper 69 = .ok (.iconst 1, 1) := by decide +kernel
theorem dX8_copper_70 : decode cX8_copper 70 = .ok (.goto 4, 3) := by decide +kernel
theorem dX8_copper_73 : decode cX8_copper 73 = .ok (.iconst 0, 1) := by decide +kernel
theorem dX8_copper_74 : decode cX8_copper 74 = .ok (.iconst 3, 1) := by decide +kernel
theorem dX8_copper_75 : decode cX8_copper 75 = .ok (.invokevirtual 78, 3) := by decide +kernel
theorem dX8_copper_78 : decode cX8_copper 78 = .ok (.ifCond .eq 5, 3) := by decide +kernel
theorem dX8_copper_81 : decode cX8_copper 81 = .ok (.iconst 0, 1) := by decide +kernel
theorem dX8_copper_82 : decode cX8_copper 82 = .ok (.ireturn, 1) := by decide +kernel
theorem dX8_copper_83 : decode cX8_copper 83 = .ok (.aload_n 0, 1) := by decide +kernel
theorem dX8_copper_84 : decode cX8_copper 84 = .ok (.getfield 50, 3) := by decide +kernel
theorem dX8_copper_87 : decode cX8_copper 87 = .ok (.aload_n 0, 1) := by decide +kernel
theorem dX8_copper_88 : decode cX8_copper 88 = .ok (.getfield 195, 3) := by decide +kernel
theorem dX8_copper_91 : decode cX8_copper 91 = .ok (.iload_n 1, 1) := by decide +kernel
theorem dX8_copper_92 : decode cX8_copper 92 = .ok (.iastore, 1) := by decide +kernel
theorem dX8_copper_93 : decode cX8_copper 93 = .ok (.aload_n 0, 1) := by decide +kernel
theorem dX8_copper_94 : decode cX8_copper 94 = .ok (.getfield 53, 3) := by decide +kernel
theorem dX8_copper_97 : decode cX8_copper 97 = .ok (.aload_n 0, 1) := by decide +kernel
theorem dX8_copper_98 : decode cX8_copper 98 = .ok (.getfield 195, 3) := by decide +kernel
theorem dX8_copper_101 : decode cX8_copper 101 = .ok (.iload_n 2, 1) := by decide +kernel
theorem dX8_copper_102 : decode cX8_copper 102 = .ok (.iastore, 1) := by decide +kernel
theorem dX8_copper_103 : decode cX8_copper 103 = .ok (.aload_n 0, 1) := by decide +kernel
theorem dX8_copper_104 : decode cX8_copper 104 = .ok (.getfield 56, 3) := by decide +kernel
theorem dX8_copper_107 : decode cX8_copper 107 = .ok (.aload_n 0, 1) := by decide +kernel
theorem dX8_copper_108 : decode cX8_copper 108 = .ok (.getfield 195, 3) := by decide +kernel
theorem dX8_copper_111 : decode cX8_copper 111 = .ok (.iload_n 2, 1) := by decide +kernel
theorem dX8_copper_112 : decode cX8_copper 112 = .ok (.iastore, 1) := by decide +kernel
theorem dX8_copper_113 : decode cX8_copper 113 = .ok (.aload_n 0, 1) := by decide +kernel
theorem dX8_copper_114 : decode cX8_copper 114 = .ok (.dup, 1) := by decide +kernel
theorem dX8_copper_115 : decode cX8_copper 115 = .ok (.getfield 195, 3) := by decide +kernel
theorem dX8_copper_118 : decode cX8_copper 118 = .ok (.iconst 1, 1) := by decide +kernel
theorem dX8_copper_119 : decode cX8_copper 119 = .ok (.iadd, 1) := by decide +kernel
theorem dX8_copper_120 : decode cX8_copper 120 = .ok (.putfield 195, 3) := by decide +kernel
theorem dX8_copper_123 : decode cX8_copper 123 = .ok (.aload_n 0, 1) := by decide +kernel
theorem dX8_copper_124 : decode cX8_copper 124 = .ok (.getfield 195, 3) := by decide +kernel
theorem dX8_copper_127 : decode cX8_copper 127 = .ok (.iconst 1, 1) := by decide +kernel
theorem dX8_copper_128 : decode cX8_copper 128 = .ok (.isub, 1) := by decide +kernel
theorem dX8_copper_129 : decode cX8_copper 129 = .ok (.ireturn, 1) := by decide +kernel
theorem dX8_isCopper_0 : decode cX8_isCopper 0 = .ok (.iload_n 1, 1) := by decide +kernel
theorem dX8_isCopper_1 : decode cX8_isCopper 1 = .ok (.ifCond .lt 15, 3) := by decide +kernel
theorem dX8_isCopper_4 : decode cX8_isCopper 4 = .ok (.iload_n 1, 1) := by decide +kernel
theorem dX8_isCopper_5 : decode cX8_isCopper 5 = .ok (.aload_n 0, 1) := by decide +kernel
theorem dX8_isCopper_6 : decode cX8_isCopper 6 = .ok (.getfield 195, 3) := by decide +kernel
theorem dX8_isCopper_9 : decode cX8_isCopper 9 = .ok (.if_icmp .ge 7, 3) := by decide +kernel
theorem dX8_isCopper_12 : decode cX8_isCopper 12 = .ok (.iconst 1, 1) := by decide +kernel
theorem dX8_isCopper_13 : decode cX8_isCopper 13 = .ok (.goto 4, 3) := by decide +kernel
theorem dX8_isCopper_16 : decode cX8_isCopper 16 = .ok (.iconst 0, 1) := by decide +kernel
theorem dX8_isCopper_17 : decode cX8_isCopper 17 = .ok (.ireturn, 1) := by decide +kernel
set_option maxRecDepth 20000 in
theorem ggX8_pass_X8_isCopper : GoodIn wsX8_pass wsX8_isCopper := goodIn_r _ [10, 11, 60, 61, 62, 63, 64, 65, 66, 67, 68, 69, 70, 71, 72, 73, 74, 75, 76, 77, 78, 79, 80, 81, 82, 83, 84, 85, 86, 87, 88, 89, 90] (by decide +kernel) (by decide +kernel)
set_option maxRecDepth 20000 in
theorem gX8_pass_X8_isCopper : GoodIn wsX8_pass (wsV RX8 198 RX8 yX8_isCopper wsX8_isCopper) := goodIn_app (goodIn_of _ (by decide +kernel)) ggX8_pass_X8_isCopper
set_option maxRecDepth 20000 in
theorem ggX8_pass_X8_isChief : GoodIn wsX8_pass wsX8_isChief := goodIn_r _ [15, 16, 60, 61, 62, 63, 64, 65, 66, 67, 68, 69, 70, 71, 72, 73, 74, 75, 76, 77, 78, 79, 80, 81, 82, 83, 84, 85, 86, 87, 88, 89, 90] (by decide +kernel) (by decide +kernel)
set_option maxRecDepth 20000 in
theorem gX8_pass_X8_isChief : GoodIn wsX8_pass (wsV RX8 184 RX8 yX8_isChief wsX8_isChief) := goodIn_app (goodIn_of _ (by decide +kernel)) ggX8_pass_X8_isChief
set_option maxRecDepth 20000 in
theorem ggX8_pass_X8_bad : GoodIn wsX8_pass wsX8_bad := goodIn_r _ [20, 1, 60, 61, 62, 63, 64, 65, 66, 67, 68, 69, 70, 71, 72, 73, 74, 75, 76, 77, 78, 79, 80, 81, 82, 83, 84, 85, 86, 87, 88, 89, 90] (by decide +kernel) (by decide +kernel)
set_option maxRecDepth 20000 in
theorem gX8_pass_X8_bad : GoodIn wsX8_pass (wsV RX8 78 RX8 yX8_bad wsX8_bad) := goodIn_app (goodIn_of _ (by decide +kernel)) ggX8_pass_X8_bad
set_option maxRecDepth 20000 in
theorem ggX8_pass_X8_madeOf : GoodIn wsX8_pass wsX8_madeOf := goodIn_r _ [24, 25, 26, 27, 28, 9, 29, 5, 30, 31, 32, 33, 34, 35, 36, 37, 38, 39, 40, 41, 42, 43, 44, 60, 61, 62, 63, 64, 65, 66, 67, 68, 69, 70, 71, 72, 73, 74, 75, 76, 77, 78, 79, 80, 81, 82, 83, 84, 85, 86, 87, 88, 89, 90] (by decide +kernel) (by decide +kernel)
set_option maxRecDepth 20000 in
theorem gX8_pass_X8_madeOf : GoodIn wsX8_pass (wsV RX8 172 RX8 yX8_madeOf wsX8_madeOf) := goodIn_app (goodIn_of _ (by decide +kernel)) ggX8_pass_X8_madeOf
set_option maxRecDepth 20000 in
theorem ggX8_pass_X8_gives : GoodIn wsX8_pass wsX8_gives := goodIn_r _ [48, 32, 37, 49, 21, 22, 23, 9, 24, 25, 26, 27, 28, 29, 5, 30, 31, 33, 34, 35, 36, 38, 39, 40, 41, 42, 43, 44, 50, 51, 52, 53, 54, 55, 56, 57, 58, 59, 60, 61, 62, 63, 64, 65, 66, 67, 68, 69, 70, 71, 72, 73, 74, 75, 76, 77, 78, 79, 80, 81, 82, 83, 84, 85, 86, 87, 88, 89, 90] (by decide +kernel) (by decide +kernel)
set_option maxRecDepth 20000 in
theorem gX8_pass_X8_gives : GoodIn wsX8_pass (wsV RX8 191 RX8 yX8_gives wsX8_gives) := goodIn_app (goodIn_of _ (by decide +kernel)) ggX8_pass_X8_gives
theorem dX8_pass_0 : decode cX8_pass 0 = .ok (.aload_n 0, 1) := by decide +kernel
theorem dX8_pass_1 : decode cX8_pass 1 = .ok (.iconst 0, 1) := by decide +kernel
theorem dX8_pass_2 : decode cX8_pass 2 = .ok (.putfield 74, 3) := by decide +kernel
theorem dX8_pass_5 : decode cX8_pass 5 = .ok (.aload_n 0, 1) := by decide +kernel
theorem dX8_pass_6 : decode cX8_pass 6 = .ok (.aload_n 0, 1) := by decide +kernel
theorem dX8_pass_7 : decode cX8_pass 7 = .ok (.iload_n 1, 1) := by decide +kernel
theorem dX8_pass_8 : decode cX8_pass 8 = .ok (.invokevirtual 198, 3) := by decide +kernel
theorem dX8_pass_11 : decode cX8_pass 11 = .ok (.ifCond .eq 11, 3) := by decide +kernel
theorem dX8_pass_14 : decode cX8_pass 14 = .ok (.aload_n 0, 1) := by decide +kernel
theorem dX8_pass_15 : decode cX8_pass 15 = .ok (.iload_n 2, 1) := by decide +kernel
theorem dX8_pass_16 : decode cX8_pass 16 = .ok (.invokevirtual 184, 3) := by decide +kernel
theorem dX8_pass_19 : decode cX8_pass 19 = .ok (.ifCond .ne 7, 3) := by decide +kernel
theorem dX8_pass_22 : decode cX8_pass 22 = .ok (.iconst 1, 1) := by decide +kernel
theorem dX8_pass_23 : decode cX8_pass 23 = .ok (.goto 4, 3) := by decide +kernel
theorem dX8_pass_26 : decode cX8_pass 26 = .ok (.iconst 0, 1) := by decide +kernel
theorem dX8_pass_27 : decode cX8_pass 27 = .ok (.iconst 1, 1) := by decide +kernel
theorem dX8_pass_28 : decode cX8_pass 28 = .ok (.invokevirtual 78, 3) := by decide +kernel
theorem dX8_pass_31 : decode cX8_pass 31 = .ok (.ifCond .ne 40, 3) := by decide +kernel
theorem dX8_pass_34 : decode cX8_pass 34 = .ok (.aload_n 0, 1) := by decide +kernel
theorem dX8_pass_35 : decode cX8_pass 35 = .ok (.aload_n 0, 1) := by decide +kernel
theorem dX8_pass_36 : decode cX8_pass 36 = .ok (.getfield 50, 3) := by decide +kernel
theorem dX8_pass_39 : decode cX8_pass 39 = .ok (.iload_n 1, 1) := by decide +kernel
theorem dX8_pass_40 : decode cX8_pass 40 = .ok (.iaload, 1) := by decide +kernel
theorem dX8_pass_41 : decode cX8_pass 41 = .ok (.iload_n 2, 1) := by decide +kernel
theorem dX8_pass_42 : decode cX8_pass 42 = .ok (.if_icmp .ne 7, 3) := by decide +kernel
theorem dX8_pass_45 : decode cX8_pass 45 = .ok (.iconst 1, 1) := by decide +kernel
theorem dX8_pass_46 : decode cX8_pass 46 = .ok (.goto 4, 3) := by decide +kernel
theorem dX8_pass_49 : decode cX8_pass 49 = .ok (.iconst 0, 1) := by decide +kernel
theorem dX8_pass_50 : decode cX8_pass 50 = .ok (.iconst 2, 1) := by decide +kernel
theorem dX8_pass_51 : decode cX8_pass 51 = .ok (.invokevirtual 78, 3) := by decide +kernel
theorem dX8_pass_54 : decode cX8_pass 54 = .ok (.ifCond .ne 17, 3) := by decide +kernel
theorem dX8_pass_57 : decode cX8_pass 57 = .ok (.aload_n 0, 1) := by decide +kernel
theorem dX8_pass_58 : decode cX8_pass 58 = .ok (.aload_n 0, 1) := by decide +kernel
theorem dX8_pass_59 : decode cX8_pass 59 = .ok (.getfield 17, 3) := by decide +kernel
theorem dX8_pass_62 : decode cX8_pass 62 = .ok (.iload_n 2, 1) := by decide +kernel
theorem dX8_pass_63 : decode cX8_pass 63 = .ok (.baload, 1) := by decide +kernel
theorem dX8_pass_64 : decode cX8_pass 64 = .ok (.iconst 3, 1) := by decide +kernel
theorem dX8_pass_65 : decode cX8_pass 65 = .ok (.invokevirtual 78, 3) := by decide +kernel
theorem dX8_pass_68 : decode cX8_pass 68 = .ok (.ifCond .eq 5, 3) := by decide +kernel
theorem dX8_pass_71 : decode cX8_pass 71 = .ok (.iconst 0, 1) := by decide +kernel
theorem dX8_pass_72 : decode cX8_pass 72 = .ok (.ireturn, 1) := by decide +kernel
theorem dX8_pass_73 : decode cX8_pass 73 = .ok (.aload_n 0, 1) := by decide +kernel
theorem dX8_pass_74 : decode cX8_pass 74 = .ok (.getfield 53, 3) := by decide +kernel
theorem dX8_pass_77 : decode cX8_pass 77 = .ok (.iload_n 1, 1) := by decide +kernel
theorem dX8_pass_78 : decode cX8_pass 78 = .ok (.iaload, 1) := by decide +kernel
theorem dX8_pass_79 : decode cX8_pass 79 = .ok (.ifCond .ne 5, 3) := by decide +kernel
theorem dX8_pass_82 : decode cX8_pass 82 = .ok (.iconst (-1), 1) := by decide +kernel
theorem dX8_pass_83 : decode cX8_pass 83 = .ok (.ireturn, 1) := by decide +kernel
theorem dX8_pass_84 : decode cX8_pass 84 = .ok (.aload_n 0, 1) := by decide +kernel
theorem dX8_pass_85 : decode cX8_pass 85 = .ok (.getfield 160, 3) := by decide +kernel
theorem dX8_pass_88 : decode cX8_pass 88 = .ok (.sipush 400, 3) := by decide +kernel
theorem dX8_pass_91 : decode cX8_pass 91 = .ok (.if_icmp .ne 29, 3) := by decide +kernel
theorem dX8_pass_94 : decode cX8_pass 94 = .ok (.aload_n 0, 1) := by decide +kernel
theorem dX8_pass_95 : decode cX8_pass 95 = .ok (.aload_n 0, 1) := by decide +kernel
theorem dX8_pass_96 : decode cX8_pass 96 = .ok (.getfield 50, 3) := by decide +kernel
theorem dX8_pass_99 : decode cX8_pass 99 = .ok (.iload_n 1, 1) := by decide +kernel
theorem dX8_pass_100 : decode cX8_pass 100 = .ok (.iaload, 1) := by decide +kernel
theorem dX8_pass_101 : decode cX8_pass 101 = .ok (.iload_n 2, 1) := by decide +kernel
theorem dX8_pass_102 : decode cX8_pass 102 = .ok (.aload_n 0, 1) := by decide +kernel
theorem dX8_pass_103 : decode cX8_pass 103 = .ok (.getfield 53, 3) := by decide +kernel
theorem dX8_pass_106 : decode cX8_pass 106 = .ok (.iload_n 1, 1) := by decide +kernel
theorem dX8_pass_107 : decode cX8_pass 107 = .ok (.iaload, 1) := by decide +kernel
theorem dX8_pass_108 : decode cX8_pass 108 = .ok (.i2l, 1) := by decide +kernel
theorem dX8_pass_109 : decode cX8_pass 109 = .ok (.invokevirtual 172, 3) := by decide +kernel
theorem dX8_pass_112 : decode cX8_pass 112 = .ok (.lconst 0, 1) := by decide +kernel
theorem dX8_pass_113 : decode cX8_pass 113 = .ok (.lcmp, 1) := by decide +kernel
theorem dX8_pass_114 : decode cX8_pass 114 = .ok (.ifCond .le 6, 3) := by decide +kernel
theorem dX8_pass_117 : decode cX8_pass 117 = .ok (.bipush (-2), 2) := by decide +kernel
theorem dX8_pass_119 : decode cX8_pass 119 = .ok (.ireturn, 1) := by decide +kernel
theorem dX8_pass_120 : decode cX8_pass 120 = .ok (.aload_n 0, 1) := by decide +kernel
theorem dX8_pass_121 : decode cX8_pass 121 = .ok (.aload_n 0, 1) := by decide +kernel
theorem dX8_pass_122 : decode cX8_pass 122 = .ok (.getfield 50, 3) := by decide +kernel
theorem dX8_pass_125 : decode cX8_pass 125 = .ok (.iload_n 1, 1) := by decide +kernel
theorem dX8_pass_126 : decode cX8_pass 126 = .ok (.iaload, 1) := by decide +kernel
theorem dX8_pass_127 : decode cX8_pass 127 = .ok (.iload_n 2, 1) := by decide +kernel
theorem dX8_pass_128 : decode cX8_pass 128 = .ok (.aload_n 0, 1) := by decide +kernel
theorem dX8_pass_129 : decode cX8_pass 129 = .ok (.getfield 53, 3) := by decide +kernel
theorem dX8_pass_132 : decode cX8_pass 132 = .ok (.iload_n 1, 1) := by decide +kernel
theorem dX8_pass_133 : decode cX8_pass 133 = .ok (.iaload, 1) := by decide +kernel
theorem dX8_pass_134 : decode cX8_pass 134 = .ok (.invokevirtual 191, 3) := by decide +kernel
theorem dX8_pass_137 : decode cX8_pass 137 = .ok (.istore_n 3, 1) := by decide +kernel
theorem dX8_pass_138 : decode cX8_pass 138 = .ok (.aload_n 0, 1) := by decide +kernel
theorem dX8_pass_139 : decode cX8_pass 139 = .ok (.getfield 50, 3) := by decide +kernel
theorem dX8_pass_142 : decode cX8_pass 142 = .ok (.iload_n 1, 1) := by decide +kernel
theorem dX8_pass_143 : decode cX8_pass 143 = .ok (.iload_n 2, 1) := by decide +kernel
theorem dX8_pass_144 : decode cX8_pass 144 = .ok (.iastore, 1) := by decide +kernel
theorem dX8_pass_145 : decode cX8_pass 145 = .ok (.iload_n 3, 1) := by decide +kernel
theorem dX8_pass_146 : decode cX8_pass 146 = .ok (.ireturn, 1) := by decide +kernel
set_option maxRecDepth 20000 in
theorem ggX8_breaks_X8_isCopper : GoodIn wsX8_breaks wsX8_isCopper := goodIn_r _ [8, 9, 14, 15, 16, 17, 18, 19, 20, 21, 22, 23, 24, 25, 26, 27, 28, 29, 30, 31, 32, 33, 34, 35, 36, 37, 38, 39, 40, 41, 42, 43, 44] (by decide +kernel) (by decide +kernel)
set_option maxRecDepth 20000 in
theorem gX8_breaks_X8_isCopper : GoodIn wsX8_breaks (wsV RX8 198 RX8 yX8_isCopper wsX8_isCopper) := goodIn_app (goodIn_of _ (by decide +kernel)) ggX8_breaks_X8_isCopper
set_option maxRecDepth 20000 in
theorem ggX8_breaks_X8_bad : GoodIn wsX8_breaks wsX8_bad := goodIn_r _ [13, 1, 14, 15, 16, 17, 18, 19, 20, 21, 22, 23, 24, 25, 26, 27, 28, 29, 30, 31, 32, 33, 34, 35, 36, 37, 38, 39, 40, 41, 42, 43, 44] (by decide +kernel) (by decide +kernel)
set_option maxRecDepth 20000 in
theorem gX8_breaks_X8_bad : GoodIn wsX8_breaks (wsV RX8 78 RX8 yX8_bad wsX8_bad) := goodIn_app (goodIn_of _ (by decide +kernel)) ggX8_breaks_X8_bad
theorem dX8_breaks_0 : decode cX8_breaks 0 = .ok (.aload_n 0, 1) := by decide +kernel
theorem dX8_breaks_1 : decode cX8_breaks 1 = .ok (.iconst 0, 1) := by decide +kernel
theorem dX8_breaks_2 : decode cX8_breaks 2 = .ok (.putfield 74, 3) := by decide +kernel
theorem dX8_breaks_5 : decode cX8_breaks 5 = .ok (.aload_n 0, 1) := by decide +kernel
theorem dX8_breaks_6 : decode cX8_breaks 6 = .ok (.aload_n 0, 1) := by decide +kernel
theorem dX8_breaks_7 : decode cX8_breaks 7 = .ok (.iload_n 1, 1) := by decide +kernel
theorem dX8_breaks_8 : decode cX8_breaks 8 = .ok (.invokevirtual 198, 3) := by decide +kernel
theorem dX8_breaks_11 : decode cX8_breaks 11 = .ok (.ifCond .ne 7, 3) := by decide +kernel
theorem dX8_breaks_14 : decode cX8_breaks 14 = .ok (.iconst 1, 1) := by decide +kernel
theorem dX8_breaks_15 : decode cX8_breaks 15 = .ok (.goto 4, 3) := by decide +kernel
theorem dX8_breaks_18 : decode cX8_breaks 18 = .ok (.iconst 0, 1) := by decide +kernel
theorem dX8_breaks_19 : decode cX8_breaks 19 = .ok (.iconst 1, 1) := by decide +kernel
theorem dX8_breaks_20 : decode cX8_breaks 20 = .ok (.invokevirtual 78, 3) := by decide +kernel
theorem dX8_breaks_23 : decode cX8_breaks 23 = .ok (.ifCond .eq 5, 3) := by decide +kernel
theorem dX8_breaks_26 : decode cX8_breaks 26 = .ok (.iconst 0, 1) := by decide +kernel
theorem dX8_breaks_27 : decode cX8_breaks 27 = .ok (.ireturn, 1) := by decide +kernel
theorem dX8_breaks_28 : decode cX8_breaks 28 = .ok (.aload_n 0, 1) := by decide +kernel
theorem dX8_breaks_29 : decode cX8_breaks 29 = .ok (.getfield 53, 3) := by decide +kernel
theorem dX8_breaks_32 : decode cX8_breaks 32 = .ok (.iload_n 1, 1) := by decide +kernel
theorem dX8_breaks_33 : decode cX8_breaks 33 = .ok (.iaload, 1) := by decide +kernel
theorem dX8_breaks_34 : decode cX8_breaks 34 = .ok (.ifCond .ne 5, 3) := by decide +kernel
theorem dX8_breaks_37 : decode cX8_breaks 37 = .ok (.iconst (-1), 1) := by decide +kernel
theorem dX8_breaks_38 : decode cX8_breaks 38 = .ok (.ireturn, 1) := by decide +kernel
theorem dX8_breaks_39 : decode cX8_breaks 39 = .ok (.aload_n 0, 1) := by decide +kernel
theorem dX8_breaks_40 : decode cX8_breaks 40 = .ok (.getfield 56, 3) := by decide +kernel
theorem dX8_breaks_43 : decode cX8_breaks 43 = .ok (.iload_n 1, 1) := by decide +kernel
theorem dX8_breaks_44 : decode cX8_breaks 44 = .ok (.iaload, 1) := by decide +kernel
theorem dX8_breaks_45 : decode cX8_breaks 45 = .ok (.bipush 8, 2) := by decide +kernel
theorem dX8_breaks_47 : decode cX8_breaks 47 = .ok (.idiv, 1) := by decide +kernel
theorem dX8_breaks_48 : decode cX8_breaks 48 = .ok (.ifCond .ne 7, 3) := by decide +kernel
theorem dX8_breaks_51 : decode cX8_breaks 51 = .ok (.iconst 1, 1) := by decide +kernel
theorem dX8_breaks_52 : decode cX8_breaks 52 = .ok (.goto 12, 3) := by decide +kernel
theorem dX8_breaks_55 : decode cX8_breaks 55 = .ok (.aload_n 0, 1) := by decide +kernel
theorem dX8_breaks_56 : decode cX8_breaks 56 = .ok (.getfield 56, 3) := by decide +kernel
theorem dX8_breaks_59 : decode cX8_breaks 59 = .ok (.iload_n 1, 1) := by decide +kernel
theorem dX8_breaks_60 : decode cX8_breaks 60 = .ok (.iaload, 1) := by decide +kernel
theorem dX8_breaks_61 : decode cX8_breaks 61 = .ok (.bipush 8, 2) := by decide +kernel
theorem dX8_breaks_63 : decode cX8_breaks 63 = .ok (.idiv, 1) := by decide +kernel
theorem dX8_breaks_64 : decode cX8_breaks 64 = .ok (.istore_n 2, 1) := by decide +kernel
theorem dX8_breaks_65 : decode cX8_breaks 65 = .ok (.aload_n 0, 1) := by decide +kernel
theorem dX8_breaks_66 : decode cX8_breaks 66 = .ok (.getfield 53, 3) := by decide +kernel
theorem dX8_breaks_69 : decode cX8_breaks 69 = .ok (.iload_n 1, 1) := by decide +kernel
theorem dX8_breaks_70 : decode cX8_breaks 70 = .ok (.aload_n 0, 1) := by decide +kernel
theorem dX8_breaks_71 : decode cX8_breaks 71 = .ok (.getfield 53, 3) := by decide +kernel
theorem dX8_breaks_74 : decode cX8_breaks 74 = .ok (.iload_n 1, 1) := by decide +kernel
theorem dX8_breaks_75 : decode cX8_breaks 75 = .ok (.iaload, 1) := by decide +kernel
theorem dX8_breaks_76 : decode cX8_breaks 76 = .ok (.iload_n 2, 1) := by decide +kernel
theorem dX8_breaks_77 : decode cX8_breaks 77 = .ok (.if_icmp .ge 7, 3) := by decide +kernel
theorem dX8_breaks_80 : decode cX8_breaks 80 = .ok (.iconst 0, 1) := by decide +kernel
theorem dX8_breaks_81 : decode cX8_breaks 81 = .ok (.goto 11, 3) := by decide +kernel
theorem dX8_breaks_84 : decode cX8_breaks 84 = .ok (.aload_n 0, 1) := by decide +kernel
theorem dX8_breaks_85 : decode cX8_breaks 85 = .ok (.getfield 53, 3) := by decide +kernel
theorem dX8_breaks_88 : decode cX8_breaks 88 = .ok (.iload_n 1, 1) := by decide +kernel
theorem dX8_breaks_89 : decode cX8_breaks 89 = .ok (.iaload, 1) := by decide +kernel
theorem dX8_breaks_90 : decode cX8_breaks 90 = .ok (.iload_n 2, 1) := by decide +kernel
theorem dX8_breaks_91 : decode cX8_breaks 91 = .ok (.isub, 1) := by decide +kernel
theorem dX8_breaks_92 : decode cX8_breaks 92 = .ok (.iastore, 1) := by decide +kernel
theorem dX8_breaks_93 : decode cX8_breaks 93 = .ok (.aload_n 0, 1) := by decide +kernel
theorem dX8_breaks_94 : decode cX8_breaks 94 = .ok (.getfield 53, 3) := by decide +kernel
theorem dX8_breaks_97 : decode cX8_breaks 97 = .ok (.iload_n 1, 1) := by decide +kernel
theorem dX8_breaks_98 : decode cX8_breaks 98 = .ok (.iaload, 1) := by decide +kernel
theorem dX8_breaks_99 : decode cX8_breaks 99 = .ok (.ireturn, 1) := by decide +kernel
set_option maxRecDepth 20000 in
theorem ggX8_copperTold_X8_isCopper : GoodIn wsX8_copperTold wsX8_isCopper := goodIn_r _ [8, 9, 14, 15, 16, 17, 18, 19, 20, 21, 22, 23, 24, 25, 26, 27, 28, 29, 30, 31, 32, 33, 34, 35, 36, 37, 38, 39, 40, 41, 42, 43, 44] (by decide +kernel) (by decide +kernel)
set_option maxRecDepth 20000 in
theorem gX8_copperTold_X8_isCopper : GoodIn wsX8_copperTold (wsV RX8 198 RX8 yX8_isCopper wsX8_isCopper) := goodIn_app (goodIn_of _ (by decide +kernel)) ggX8_copperTold_X8_isCopper
set_option maxRecDepth 20000 in
theorem ggX8_copperTold_X8_bad : GoodIn wsX8_copperTold wsX8_bad := goodIn_r _ [13, 1, 14, 15, 16, 17, 18, 19, 20, 21, 22, 23, 24, 25, 26, 27, 28, 29, 30, 31, 32, 33, 34, 35, 36, 37, 38, 39, 40, 41, 42, 43, 44] (by decide +kernel) (by decide +kernel)
set_option maxRecDepth 20000 in
theorem gX8_copperTold_X8_bad : GoodIn wsX8_copperTold (wsV RX8 78 RX8 yX8_bad wsX8_bad) := goodIn_app (goodIn_of _ (by decide +kernel)) ggX8_copperTold_X8_bad
theorem dX8_copperTold_0 : decode cX8_copperTold 0 = .ok (.aload_n 0, 1) := by decide +kernel
theorem dX8_copperTold_1 : decode cX8_copperTold 1 = .ok (.iconst 0, 1) := by decide +kernel
theorem dX8_copperTold_2 : decode cX8_copperTold 2 = .ok (.putfield 74, 3) := by decide +kernel
theorem dX8_copperTold_5 : decode cX8_copperTold 5 = .ok (.aload_n 0, 1) := by decide +kernel
theorem dX8_copperTold_6 : decode cX8_copperTold 6 = .ok (.aload_n 0, 1) := by decide +kernel
theorem dX8_copperTold_7 : decode cX8_copperTold 7 = .ok (.iload_n 1, 1) := by decide +kernel
theorem dX8_copperTold_8 : decode cX8_copperTold 8 = .ok (.invokevirtual 198, 3) := by decide +kernel
theorem dX8_copperTold_11 : decode cX8_copperTold 11 = .ok (.ifCond .ne 7, 3) := by decide +kernel
theorem dX8_copperTold_14 : decode cX8_copperTold 14 = .ok (.iconst 1, 1) := by decide +kernel
theorem dX8_copperTold_15 : decode cX8_copperTold 15 = .ok (.goto 4, 3) := by decide +kernel
theorem dX8_copperTold_18 : decode cX8_copperTold 18 = .ok (.iconst 0, 1) := by decide +kernel
theorem dX8_copperTold_19 : decode cX8_copperTold 19 = .ok (.iconst 1, 1) := by decide +kernel
theorem dX8_copperTold_20 : decode cX8_copperTold 20 = .ok (.invokevirtual 78, 3) := by decide +kernel
theorem dX8_copperTold_23 : decode cX8_copperTold 23 = .ok (.ifCond .ne 25, 3) := by decide +kernel
theorem dX8_copperTold_26 : decode cX8_copperTold 26 = .ok (.aload_n 0, 1) := by decide +kernel
theorem dX8_copperTold_27 : decode cX8_copperTold 27 = .ok (.iload_n 2, 1) := by decide +kernel
theorem dX8_copperTold_28 : decode cX8_copperTold 28 = .ok (.ifCond .lt 8, 3) := by decide +kernel
theorem dX8_copperTold_31 : decode cX8_copperTold 31 = .ok (.iload_n 2, 1) := by decide +kernel
theorem dX8_copperTold_32 : decode cX8_copperTold 32 = .ok (.iconst 1, 1) := by decide +kernel
theorem dX8_copperTold_33 : decode cX8_copperTold 33 = .ok (.if_icmp .le 7, 3) := by decide +kernel
theorem dX8_copperTold_36 : decode cX8_copperTold 36 = .ok (.iconst 1, 1) := by decide +kernel
theorem dX8_copperTold_37 : decode cX8_copperTold 37 = .ok (.goto 4, 3) := by decide +kernel
theorem dX8_copperTold_40 : decode cX8_copperTold 40 = .ok (.iconst 0, 1) := by decide +kernel
theorem dX8_copperTold_41 : decode cX8_copperTold 41 = .ok (.iconst 2, 1) := by decide +kernel
theorem dX8_copperTold_42 : decode cX8_copperTold 42 = .ok (.invokevirtual 78, 3) := by decide +kernel
theorem dX8_copperTold_45 : decode cX8_copperTold 45 = .ok (.ifCond .eq 5, 3) := by decide +kernel
theorem dX8_copperTold_48 : decode cX8_copperTold 48 = .ok (.iconst 0, 1) := by decide +kernel
theorem dX8_copperTold_49 : decode cX8_copperTold 49 = .ok (.ireturn, 1) := by decide +kernel
theorem dX8_copperTold_50 : decode cX8_copperTold 50 = .ok (.iload_n 2, 1) := by decide +kernel
theorem dX8_copperTold_51 : decode cX8_copperTold 51 = .ok (.ifCond .ne 12, 3) := by decide +kernel
theorem dX8_copperTold_54 : decode cX8_copperTold 54 = .ok (.aload_n 0, 1) := by decide +kernel
theorem dX8_copperTold_55 : decode cX8_copperTold 55 = .ok (.getfield 50, 3) := by decide +kernel
theorem dX8_copperTold_58 : decode cX8_copperTold 58 = .ok (.iload_n 1, 1) := by decide +kernel
theorem dX8_copperTold_59 : decode cX8_copperTold 59 = .ok (.iaload, 1) := by decide +kernel
theorem dX8_copperTold_60 : decode cX8_copperTold 60 = .ok (.goto 9, 3) := by decide +kernel
theorem dX8_copperTold_63 : decode cX8_copperTold 63 = .ok (.aload_n 0, 1) := by decide +kernel
theorem dX8_copperTold_64 : decode cX8_copperTold 64 = .ok (.getfield 53, 3) := by decide +kernel
theorem dX8_copperTold_67 : decode cX8_copperTold 67 = .ok (.iload_n 1, 1) := by decide +kernel
theorem dX8_copperTold_68 : decode cX8_copperTold 68 = .ok (.iaload, 1) := by decide +kernel
theorem dX8_copperTold_69 : decode cX8_copperTold 69 = .ok (.ireturn, 1) := by decide +kernel
theorem dX8_isIn_0 : decode cX8_isIn 0 = .ok (.iload_n 0, 1) := by decide +kernel
theorem dX8_isIn_1 : decode cX8_isIn 1 = .ok (.iload_n 1, 1) := by decide +kernel
theorem dX8_isIn_2 : decode cX8_isIn 2 = .ok (.ishr, 1) := by decide +kernel
theorem dX8_isIn_3 : decode cX8_isIn 3 = .ok (.iconst 1, 1) := by decide +kernel
theorem dX8_isIn_4 : decode cX8_isIn 4 = .ok (.iand, 1) := by decide +kernel
theorem dX8_isIn_5 : decode cX8_isIn 5 = .ok (.iconst 1, 1) := by decide +kernel
theorem dX8_isIn_6 : decode cX8_isIn 6 = .ok (.if_icmp .ne 7, 3) := by decide +kernel
theorem dX8_isIn_9 : decode cX8_isIn 9 = .ok (.iconst 1, 1) := by decide +kernel
theorem dX8_isIn_10 : decode cX8_isIn 10 = .ok (.goto 4, 3) := by decide +kernel
theorem dX8_isIn_13 : decode cX8_isIn 13 = .ok (.iconst 0, 1) := by decide +kernel
theorem dX8_isIn_14 : decode cX8_isIn 14 = .ok (.ireturn, 1) := by decide +kernel
set_option maxRecDepth 20000 in
theorem ggX8_feast_X8_isChief : GoodIn wsX8_feast wsX8_isChief := goodIn_r _ [11, 2, 58, 59, 60, 61, 62, 63, 64, 65, 66, 67, 68, 69, 70, 71, 72, 73, 74, 75, 76, 77, 78, 79, 80, 81, 82, 83, 84, 85, 86, 87, 88] (by decide +kernel) (by decide +kernel)
set_option maxRecDepth 20000 in
theorem gX8_feast_X8_isChief : GoodIn wsX8_feast (wsV RX8 184 RX8 yX8_isChief wsX8_isChief) := goodIn_app (goodIn_of _ (by decide +kernel)) ggX8_feast_X8_isChief
set_option maxRecDepth 20000 in
theorem ggX8_feast_X8_bad : GoodIn wsX8_feast wsX8_bad := goodIn_r _ [15, 1, 58, 59, 60, 61, 62, 63, 64, 65, 66, 67, 68, 69, 70, 71, 72, 73, 74, 75, 76, 77, 78, 79, 80, 81, 82, 83, 84, 85, 86, 87, 88] (by decide +kernel) (by decide +kernel)
set_option maxRecDepth 20000 in
theorem gX8_feast_X8_bad : GoodIn wsX8_feast (wsV RX8 78 RX8 yX8_bad wsX8_bad) := goodIn_app (goodIn_of _ (by decide +kernel)) ggX8_feast_X8_bad
set_option maxRecDepth 20000 in
theorem ggX8_feast_X8_isIn : GoodIn wsX8_feast wsX8_isIn := goodIn_r _ [18] (by decide +kernel) (by decide +kernel)
set_option maxRecDepth 20000 in
theorem gX8_feast_X8_isIn : GoodIn wsX8_feast (va_wsS RX8 201 yX8_isIn wsX8_isIn) := goodIn_app (goodIn_of _ (by decide +kernel)) ggX8_feast_X8_isIn
set_option maxRecDepth 20000 in
theorem ggX8_feast_X8_term : GoodIn wsX8_feast wsX8_term := goodIn_r _ [22, 23, 24, 25, 26, 27, 10, 28, 29, 30, 58, 59, 60, 61, 62, 63, 64, 65, 66, 67, 68, 69, 70, 71, 72, 73, 74, 75, 76, 77, 78, 79, 80, 81, 82, 83, 84, 85, 86, 87, 88] (by decide +kernel) (by decide +kernel)
set_option maxRecDepth 20000 in
theorem gX8_feast_X8_term : GoodIn wsX8_feast (wsV RX8 167 RX8 yX8_term wsX8_term) := goodIn_app (goodIn_of _ (by decide +kernel)) ggX8_feast_X8_term
set_option maxRecDepth 20000 in
theorem ggX8_feast_X8_madeOf : GoodIn wsX8_feast wsX8_madeOf := goodIn_r _ [34, 35, 36, 37, 38, 10, 39, 6, 40, 41, 42, 19, 20, 21, 22, 23, 24, 25, 26, 27, 28, 29, 30, 58, 59, 60, 61, 62, 63, 64, 65, 66, 67, 68, 69, 70, 71, 72, 73, 74, 75, 76, 77, 78, 79, 80, 81, 82, 83, 84, 85, 86, 87, 88] (by decide +kernel) (by decide +kernel)
set_option maxRecDepth 20000 in
theorem gX8_feast_X8_madeOf : GoodIn wsX8_feast (wsV RX8 172 RX8 yX8_madeOf wsX8_madeOf) := goodIn_app (goodIn_of _ (by decide +kernel)) ggX8_feast_X8_madeOf
set_option maxRecDepth 20000 in
theorem ggX8_feast_X8_gives : GoodIn wsX8_feast wsX8_gives := goodIn_r _ [46, 42, 23, 47, 31, 32, 33, 10, 34, 35, 36, 37, 38, 39, 6, 40, 41, 19, 20, 21, 22, 24, 25, 26, 27, 28, 29, 30, 48, 49, 50, 51, 52, 53, 54, 55, 56, 57, 58, 59, 60, 61, 62, 63, 64, 65, 66, 67, 68, 69, 70, 71, 72, 73, 74, 75, 76, 77, 78, 79, 80, 81, 82, 83, 84, 85, 86, 87, 88] (by decide +kernel) (by decide +kernel)
set_option maxRecDepth 20000 in
theorem gX8_feast_X8_gives : GoodIn wsX8_feast (wsV RX8 191 RX8 yX8_gives wsX8_gives) := goodIn_app (goodIn_of _ (by decide +kernel)) ggX8_feast_X8_gives
theorem dX8_feast_0 : decode cX8_feast 0 = .ok (.aload_n 0, 1) := by decide +kernel
theorem dX8_feast_1 : decode cX8_feast 1 = .ok (.iconst 0, 1) := by decide +kernel
theorem dX8_feast_2 : decode cX8_feast 2 = .ok (.putfield 74, 3) := by decide +kernel
theorem dX8_feast_5 : decode cX8_feast 5 = .ok (.aload_n 0, 1) := by decide +kernel
theorem dX8_feast_6 : decode cX8_feast 6 = .ok (.aload_n 0, 1) := by decide +kernel
theorem dX8_feast_7 : decode cX8_feast 7 = .ok (.iload_n 1, 1) := by decide +kernel
theorem dX8_feast_8 : decode cX8_feast 8 = .ok (.invokevirtual 184, 3) := by decide +kernel
theorem dX8_feast_11 : decode cX8_feast 11 = .ok (.ifCond .ne 7, 3) := by decide +kernel
theorem dX8_feast_14 : decode cX8_feast 14 = .ok (.iconst 1, 1) := by decide +kernel
theorem dX8_feast_15 : decode cX8_feast 15 = .ok (.goto 4, 3) := by decide +kernel
theorem dX8_feast_18 : decode cX8_feast 18 = .ok (.iconst 0, 1) := by decide +kernel
theorem dX8_feast_19 : decode cX8_feast 19 = .ok (.iconst 1, 1) := by decide +kernel
theorem dX8_feast_20 : decode cX8_feast 20 = .ok (.invokevirtual 78, 3) := by decide +kernel
theorem dX8_feast_23 : decode cX8_feast 23 = .ok (.ifCond .eq 5, 3) := by decide +kernel
theorem dX8_feast_26 : decode cX8_feast 26 = .ok (.iconst 0, 1) := by decide +kernel
theorem dX8_feast_27 : decode cX8_feast 27 = .ok (.ireturn, 1) := by decide +kernel
theorem dX8_feast_28 : decode cX8_feast 28 = .ok (.iconst 1, 1) := by decide +kernel
theorem dX8_feast_29 : decode cX8_feast 29 = .ok (.aload_n 0, 1) := by decide +kernel
theorem dX8_feast_30 : decode cX8_feast 30 = .ok (.getfield 82, 3) := by decide +kernel
theorem dX8_feast_33 : decode cX8_feast 33 = .ok (.ishl, 1) := by decide +kernel
theorem dX8_feast_34 : decode cX8_feast 34 = .ok (.iconst 1, 1) := by decide +kernel
theorem dX8_feast_35 : decode cX8_feast 35 = .ok (.isub, 1) := by decide +kernel
theorem dX8_feast_36 : decode cX8_feast 36 = .ok (.istore 5, 2) := by decide +kernel
theorem dX8_feast_38 : decode cX8_feast 38 = .ok (.iload_n 2, 1) := by decide +kernel
theorem dX8_feast_39 : decode cX8_feast 39 = .ok (.ifCond .lt 50, 3) := by decide +kernel
theorem dX8_feast_42 : decode cX8_feast 42 = .ok (.iload 4, 2) := by decide +kernel
theorem dX8_feast_44 : decode cX8_feast 44 = .ok (.ifCond .lt 45, 3) := by decide +kernel
theorem dX8_feast_47 : decode cX8_feast 47 = .ok (.iload_n 2, 1) := by decide +kernel
theorem dX8_feast_48 : decode cX8_feast 48 = .ok (.iload 5, 2) := by decide +kernel
theorem dX8_feast_50 : decode cX8_feast 50 = .ok (.if_icmp .gt 39, 3) := by decide +kernel
theorem dX8_feast_53 : decode cX8_feast 53 = .ok (.iload 4, 2) := by decide +kernel
theorem dX8_feast_55 : decode cX8_feast 55 = .ok (.iload 5, 2) := by decide +kernel
theorem dX8_feast_57 : decode cX8_feast 57 = .ok (.if_icmp .gt 32, 3) := by decide +kernel
theorem dX8_feast_60 : decode cX8_feast 60 = .ok (.iload_n 2, 1) := by decide +kernel
theorem dX8_feast_61 : decode cX8_feast 61 = .ok (.iload 4, 2) := by decide +kernel
theorem dX8_feast_63 : decode cX8_feast 63 = .ok (.ior, 1) := by decide +kernel
theorem dX8_feast_64 : decode cX8_feast 64 = .ok (.iload_n 1, 1) := by decide +kernel
theorem dX8_feast_65 : decode cX8_feast 65 = .ok (.invokestatic 201, 3) := by decide +kernel
theorem dX8_feast_68 : decode cX8_feast 68 = .ok (.ifCond .ne 21, 3) := by decide +kernel
theorem dX8_feast_71 : decode cX8_feast 71 = .ok (.iload_n 2, 1) := by decide +kernel
theorem dX8_feast_72 : decode cX8_feast 72 = .ok (.iload 4, 2) := by decide +kernel
theorem dX8_feast_74 : decode cX8_feast 74 = .ok (.iand, 1) := by decide +kernel
theorem dX8_feast_75 : decode cX8_feast 75 = .ok (.ifCond .ne 14, 3) := by decide +kernel
theorem dX8_feast_78 : decode cX8_feast 78 = .ok (.iload_n 3, 1) := by decide +kernel
theorem dX8_feast_79 : decode cX8_feast 79 = .ok (.iconst 1, 1) := by decide +kernel
theorem dX8_feast_80 : decode cX8_feast 80 = .ok (.if_icmp .lt 9, 3) := by decide +kernel
theorem dX8_feast_83 : decode cX8_feast 83 = .ok (.iload_n 3, 1) := by decide +kernel
theorem dX8_feast_84 : decode cX8_feast 84 = .ok (.ldc 205, 2) := by decide +kernel
theorem dX8_feast_86 : decode cX8_feast 86 = .ok (.if_icmp .le 7, 3) := by decide +kernel
theorem dX8_feast_89 : decode cX8_feast 89 = .ok (.iconst 1, 1) := by decide +kernel
theorem dX8_feast_90 : decode cX8_feast 90 = .ok (.goto 4, 3) := by decide +kernel
theorem dX8_feast_93 : decode cX8_feast 93 = .ok (.iconst 0, 1) := by decide +kernel
theorem dX8_feast_94 : decode cX8_feast 94 = .ok (.istore 6, 2) := by decide +kernel
theorem dX8_feast_96 : decode cX8_feast 96 = .ok (.aload_n 0, 1) := by decide +kernel
theorem dX8_feast_97 : decode cX8_feast 97 = .ok (.iload 6, 2) := by decide +kernel
theorem dX8_feast_99 : decode cX8_feast 99 = .ok (.iconst 2, 1) := by decide +kernel
theorem dX8_feast_100 : decode cX8_feast 100 = .ok (.invokevirtual 78, 3) := by decide +kernel
theorem dX8_feast_103 : decode cX8_feast 103 = .ok (.ifCond .eq 5, 3) := by decide +kernel
theorem dX8_feast_106 : decode cX8_feast 106 = .ok (.iconst 0, 1) := by decide +kernel
theorem dX8_feast_107 : decode cX8_feast 107 = .ok (.ireturn, 1) := by decide +kernel
theorem dX8_feast_108 : decode cX8_feast 108 = .ok (.aload_n 0, 1) := by decide +kernel
theorem dX8_feast_109 : decode cX8_feast 109 = .ok (.getfield 17, 3) := by decide +kernel
theorem dX8_feast_112 : decode cX8_feast 112 = .ok (.iload_n 1, 1) := by decide +kernel
theorem dX8_feast_113 : decode cX8_feast 113 = .ok (.baload, 1) := by decide +kernel
theorem dX8_feast_114 : decode cX8_feast 114 = .ok (.istore 7, 2) := by decide +kernel
theorem dX8_feast_116 : decode cX8_feast 116 = .ok (.lconst 0, 1) := by decide +kernel
theorem dX8_feast_117 : decode cX8_feast 117 = .ok (.lstore 8, 2) := by decide +kernel
theorem dX8_feast_119 : decode cX8_feast 119 = .ok (.iconst 0, 1) := by decide +kernel
theorem dX8_feast_120 : decode cX8_feast 120 = .ok (.istore 10, 2) := by decide +kernel
theorem dX8_feast_122 : decode cX8_feast 122 = .ok (.iconst 0, 1) := by decide +kernel
theorem dX8_feast_123 : decode cX8_feast 123 = .ok (.istore 11, 2) := by decide +kernel
theorem dX8_feast_125 : decode cX8_feast 125 = .ok (.iload 11, 2) := by decide +kernel
theorem dX8_feast_127 : decode cX8_feast 127 = .ok (.aload_n 0, 1) := by decide +kernel
theorem dX8_feast_128 : decode cX8_feast 128 = .ok (.getfield 82, 3) := by decide +kernel
theorem dX8_feast_131 : decode cX8_feast 131 = .ok (.if_icmp .ge 104, 3) := by decide +kernel
theorem dX8_feast_134 : decode cX8_feast 134 = .ok (.iload_n 2, 1) := by decide +kernel
theorem dX8_feast_135 : decode cX8_feast 135 = .ok (.iload 4, 2) := by decide +kernel
theorem dX8_feast_137 : decode cX8_feast 137 = .ok (.ior, 1) := by decide +kernel
theorem dX8_feast_138 : decode cX8_feast 138 = .ok (.iload 11, 2) := by decide +kernel
theorem dX8_feast_140 : decode cX8_feast 140 = .ok (.invokestatic 201, 3) := by decide +kernel
theorem dX8_feast_143 : decode cX8_feast 143 = .ok (.ifCond .ne 6, 3) := by decide +kernel
theorem dX8_feast_146 : decode cX8_feast 146 = .ok (.goto 83, 3) := by decide +kernel
theorem dX8_feast_149 : decode cX8_feast 149 = .ok (.iload 7, 2) := by decide +kernel
theorem dX8_feast_151 : decode cX8_feast 151 = .ok (.ifCond .ne 13, 3) := by decide +kernel
theorem dX8_feast_154 : decode cX8_feast 154 = .ok (.aload_n 0, 1) := by decide +kernel
theorem dX8_feast_155 : decode cX8_feast 155 = .ok (.getfield 17, 3) := by decide +kernel
theorem dX8_feast_158 : decode cX8_feast 158 = .ok (.iload 11, 2) := by decide +kernel
theorem dX8_feast_160 : decode cX8_feast 160 = .ok (.baload, 1) := by decide +kernel
theorem dX8_feast_161 : decode cX8_feast 161 = .ok (.ifCond .eq 7, 3) := by decide +kernel
theorem dX8_feast_164 : decode cX8_feast 164 = .ok (.iconst 1, 1) := by decide +kernel
theorem dX8_feast_165 : decode cX8_feast 165 = .ok (.goto 4, 3) := by decide +kernel
theorem dX8_feast_168 : decode cX8_feast 168 = .ok (.iconst 0, 1) := by decide +kernel
theorem dX8_feast_169 : decode cX8_feast 169 = .ok (.istore 7, 2) := by decide +kernel
theorem dX8_feast_171 : decode cX8_feast 171 = .ok (.lload 8, 2) := by decide +kernel
theorem dX8_feast_173 : decode cX8_feast 173 = .ok (.iload_n 2, 1) := by decide +kernel
theorem dX8_feast_174 : decode cX8_feast 174 = .ok (.iload 11, 2) := by decide +kernel
theorem dX8_feast_176 : decode cX8_feast 176 = .ok (.invokestatic 201, 3) := by decide +kernel
theorem dX8_feast_179 : decode cX8_feast 179 = .ok (.ifCond .eq 8, 3) := by decide +kernel
theorem dX8_feast_182 : decode cX8_feast 182 = .ok (.iload_n 3, 1) := by decide +kernel
theorem dX8_feast_183 : decode cX8_feast 183 = .ok (.i2l, 1) := by decide +kernel
theorem dX8_feast_184 : decode cX8_feast 184 = .ok (.goto 9, 3) := by decide +kernel
theorem dX8_feast_187 : decode cX8_feast 187 = .ok (.aload_n 0, 1) := by decide +kernel
theorem dX8_feast_188 : decode cX8_feast 188 = .ok (.iconst 5, 1) := by decide +kernel
theorem dX8_feast_189 : decode cX8_feast 189 = .ok (.invokevirtual 167, 3) := by decide +kernel
theorem dX8_feast_192 : decode cX8_feast 192 = .ok (.i2l, 1) := by decide +kernel
theorem dX8_feast_193 : decode cX8_feast 193 = .ok (.ladd, 1) := by decide +kernel
theorem dX8_feast_194 : decode cX8_feast 194 = .ok (.lstore 8, 2) := by decide +kernel
theorem dX8_feast_196 : decode cX8_feast 196 = .ok (.iload 10, 2) := by decide +kernel
theorem dX8_feast_198 : decode cX8_feast 198 = .ok (.iload_n 2, 1) := by decide +kernel
theorem dX8_feast_199 : decode cX8_feast 199 = .ok (.iload 11, 2) := by decide +kernel
theorem dX8_feast_201 : decode cX8_feast 201 = .ok (.invokestatic 201, 3) := by decide +kernel
theorem dX8_feast_204 : decode cX8_feast 204 = .ok (.ifCond .eq 21, 3) := by decide +kernel
theorem dX8_feast_207 : decode cX8_feast 207 = .ok (.aload_n 0, 1) := by decide +kernel
theorem dX8_feast_208 : decode cX8_feast 208 = .ok (.iload_n 1, 1) := by decide +kernel
theorem dX8_feast_209 : decode cX8_feast 209 = .ok (.iload 11, 2) := by decide +kernel
theorem dX8_feast_211 : decode cX8_feast 211 = .ok (.iload_n 3, 1) := by decide +kernel
theorem dX8_feast_212 : decode cX8_feast 212 = .ok (.i2l, 1) := by decide +kernel
theorem dX8_feast_213 : decode cX8_feast 213 = .ok (.invokevirtual 172, 3) := by decide +kernel
theorem dX8_feast_216 : decode cX8_feast 216 = .ok (.lconst 0, 1) := by decide +kernel
theorem dX8_feast_217 : decode cX8_feast 217 = .ok (.lcmp, 1) := by decide +kernel
theorem dX8_feast_218 : decode cX8_feast 218 = .ok (.ifCond .le 7, 3) := by decide +kernel
theorem dX8_feast_221 : decode cX8_feast 221 = .ok (.iconst 1, 1) := by decide +kernel
theorem dX8_feast_222 : decode cX8_feast 222 = .ok (.goto 4, 3) := by decide +kernel
theorem dX8_feast_225 : decode cX8_feast 225 = .ok (.iconst 0, 1) := by decide +kernel
theorem dX8_feast_226 : decode cX8_feast 226 = .ok (.iadd, 1) := by decide +kernel
theorem dX8_feast_227 : decode cX8_feast 227 = .ok (.istore 10, 2) := by decide +kernel
theorem dX8_feast_229 : decode cX8_feast 229 = .ok (.iinc 11 1, 3) := by decide +kernel
theorem dX8_feast_232 : decode cX8_feast 232 = .ok (.goto (-107), 3) := by decide +kernel
theorem dX8_feast_235 : decode cX8_feast 235 = .ok (.aload_n 0, 1) := by decide +kernel
theorem dX8_feast_236 : decode cX8_feast 236 = .ok (.iload 7, 2) := by decide +kernel
theorem dX8_feast_238 : decode cX8_feast 238 = .ok (.iconst 3, 1) := by decide +kernel
theorem dX8_feast_239 : decode cX8_feast 239 = .ok (.invokevirtual 78, 3) := by decide +kernel
theorem dX8_feast_242 : decode cX8_feast 242 = .ok (.ifCond .eq 5, 3) := by decide +kernel
theorem dX8_feast_245 : decode cX8_feast 245 = .ok (.iconst 0, 1) := by decide +kernel
theorem dX8_feast_246 : decode cX8_feast 246 = .ok (.ireturn, 1) := by decide +kernel
theorem dX8_feast_247 : decode cX8_feast 247 = .ok (.lload 8, 2) := by decide +kernel
theorem dX8_feast_249 : decode cX8_feast 249 = .ok (.aload_n 0, 1) := by decide +kernel
theorem dX8_feast_250 : decode cX8_feast 250 = .ok (.getfield 9, 3) := by decide +kernel
theorem dX8_feast_253 : decode cX8_feast 253 = .ok (.iload_n 1, 1) := by decide +kernel
theorem dX8_feast_254 : decode cX8_feast 254 = .ok (.iaload, 1) := by decide +kernel
theorem dX8_feast_255 : decode cX8_feast 255 = .ok (.i2l, 1) := by decide +kernel
theorem dX8_feast_256 : decode cX8_feast 256 = .ok (.lcmp, 1) := by decide +kernel
theorem dX8_feast_257 : decode cX8_feast 257 = .ok (.ifCond .le 5, 3) := by decide +kernel
theorem dX8_feast_260 : decode cX8_feast 260 = .ok (.iconst (-1), 1) := by decide +kernel
theorem dX8_feast_261 : decode cX8_feast 261 = .ok (.ireturn, 1) := by decide +kernel
theorem dX8_feast_262 : decode cX8_feast 262 = .ok (.aload_n 0, 1) := by decide +kernel
theorem dX8_feast_263 : decode cX8_feast 263 = .ok (.getfield 160, 3) := by decide +kernel
theorem dX8_feast_266 : decode cX8_feast 266 = .ok (.iload 10, 2) := by decide +kernel
theorem dX8_feast_268 : decode cX8_feast 268 = .ok (.iadd, 1) := by decide +kernel
theorem dX8_feast_269 : decode cX8_feast 269 = .ok (.sipush 400, 3) := by decide +kernel
theorem dX8_feast_272 : decode cX8_feast 272 = .ok (.if_icmp .le 6, 3) := by decide +kernel
theorem dX8_feast_275 : decode cX8_feast 275 = .ok (.bipush (-2), 2) := by decide +kernel
theorem dX8_feast_277 : decode cX8_feast 277 = .ok (.ireturn, 1) := by decide +kernel
theorem dX8_feast_278 : decode cX8_feast 278 = .ok (.aload_n 0, 1) := by decide +kernel
theorem dX8_feast_279 : decode cX8_feast 279 = .ok (.getfield 9, 3) := by decide +kernel
theorem dX8_feast_282 : decode cX8_feast 282 = .ok (.iload_n 1, 1) := by decide +kernel
theorem dX8_feast_283 : decode cX8_feast 283 = .ok (.dup2, 1) := by decide +kernel
theorem dX8_feast_284 : decode cX8_feast 284 = .ok (.iaload, 1) := by decide +kernel
theorem dX8_feast_285 : decode cX8_feast 285 = .ok (.lload 8, 2) := by decide +kernel
theorem dX8_feast_287 : decode cX8_feast 287 = .ok (.l2i, 1) := by decide +kernel
theorem dX8_feast_288 : decode cX8_feast 288 = .ok (.isub, 1) := by decide +kernel
theorem dX8_feast_289 : decode cX8_feast 289 = .ok (.iastore, 1) := by decide +kernel
theorem dX8_feast_290 : decode cX8_feast 290 = .ok (.iconst 0, 1) := by decide +kernel
theorem dX8_feast_291 : decode cX8_feast 291 = .ok (.istore 11, 2) := by decide +kernel
theorem dX8_feast_293 : decode cX8_feast 293 = .ok (.iload 11, 2) := by decide +kernel
theorem dX8_feast_295 : decode cX8_feast 295 = .ok (.aload_n 0, 1) := by decide +kernel
theorem dX8_feast_296 : decode cX8_feast 296 = .ok (.getfield 82, 3) := by decide +kernel
theorem dX8_feast_299 : decode cX8_feast 299 = .ok (.if_icmp .ge 66, 3) := by decide +kernel
theorem dX8_feast_302 : decode cX8_feast 302 = .ok (.iload_n 2, 1) := by decide +kernel
theorem dX8_feast_303 : decode cX8_feast 303 = .ok (.iload 11, 2) := by decide +kernel
theorem dX8_feast_305 : decode cX8_feast 305 = .ok (.invokestatic 201, 3) := by decide +kernel
theorem dX8_feast_308 : decode cX8_feast 308 = .ok (.ifCond .eq 26, 3) := by decide +kernel
theorem dX8_feast_311 : decode cX8_feast 311 = .ok (.aload_n 0, 1) := by decide +kernel
theorem dX8_feast_312 : decode cX8_feast 312 = .ok (.getfield 9, 3) := by decide +kernel
theorem dX8_feast_315 : decode cX8_feast 315 = .ok (.iload 11, 2) := by decide +kernel
theorem dX8_feast_317 : decode cX8_feast 317 = .ok (.dup2, 1) := by decide +kernel
theorem dX8_feast_318 : decode cX8_feast 318 = .ok (.iaload, 1) := by decide +kernel
theorem dX8_feast_319 : decode cX8_feast 319 = .ok (.iload_n 3, 1) := by decide +kernel
theorem dX8_feast_320 : decode cX8_feast 320 = .ok (.iadd, 1) := by decide +kernel
theorem dX8_feast_321 : decode cX8_feast 321 = .ok (.iastore, 1) := by decide +kernel
theorem dX8_feast_322 : decode cX8_feast 322 = .ok (.aload_n 0, 1) := by decide +kernel
theorem dX8_feast_323 : decode cX8_feast 323 = .ok (.iload_n 1, 1) := by decide +kernel
theorem dX8_feast_324 : decode cX8_feast 324 = .ok (.iload 11, 2) := by decide +kernel
theorem dX8_feast_326 : decode cX8_feast 326 = .ok (.iload_n 3, 1) := by decide +kernel
theorem dX8_feast_327 : decode cX8_feast 327 = .ok (.invokevirtual 191, 3) := by decide +kernel
theorem dX8_feast_330 : decode cX8_feast 330 = .ok (.pop, 1) := by decide +kernel
theorem dX8_feast_331 : decode cX8_feast 331 = .ok (.goto 28, 3) := by decide +kernel
theorem dX8_feast_334 : decode cX8_feast 334 = .ok (.iload 4, 2) := by decide +kernel
theorem dX8_feast_336 : decode cX8_feast 336 = .ok (.iload 11, 2) := by decide +kernel
theorem dX8_feast_338 : decode cX8_feast 338 = .ok (.invokestatic 201, 3) := by decide +kernel
theorem dX8_feast_341 : decode cX8_feast 341 = .ok (.ifCond .eq 18, 3) := by decide +kernel
theorem dX8_feast_344 : decode cX8_feast 344 = .ok (.aload_n 0, 1) := by decide +kernel
theorem dX8_feast_345 : decode cX8_feast 345 = .ok (.getfield 9, 3) := by decide +kernel
theorem dX8_feast_348 : decode cX8_feast 348 = .ok (.iload 11, 2) := by decide +kernel
theorem dX8_feast_350 : decode cX8_feast 350 = .ok (.dup2, 1) := by decide +kernel
theorem dX8_feast_351 : decode cX8_feast 351 = .ok (.iaload, 1) := by decide +kernel
theorem dX8_feast_352 : decode cX8_feast 352 = .ok (.aload_n 0, 1) := by decide +kernel
theorem dX8_feast_353 : decode cX8_feast 353 = .ok (.iconst 5, 1) := by decide +kernel
theorem dX8_feast_354 : decode cX8_feast 354 = .ok (.invokevirtual 167, 3) := by decide +kernel
theorem dX8_feast_357 : decode cX8_feast 357 = .ok (.iadd, 1) := by decide +kernel
theorem dX8_feast_358 : decode cX8_feast 358 = .ok (.iastore, 1) := by decide +kernel
theorem dX8_feast_359 : decode cX8_feast 359 = .ok (.iinc 11 1, 3) := by decide +kernel
theorem dX8_feast_362 : decode cX8_feast 362 = .ok (.goto (-69), 3) := by decide +kernel
theorem dX8_feast_365 : decode cX8_feast 365 = .ok (.lload 8, 2) := by decide +kernel
theorem dX8_feast_367 : decode cX8_feast 367 = .ok (.l2i, 1) := by decide +kernel
theorem dX8_feast_368 : decode cX8_feast 368 = .ok (.ireturn, 1) := by decide +kernel
set_option maxRecDepth 20000 in
theorem ggX8_died_X8_isChief : GoodIn wsX8_died wsX8_isChief := goodIn_r _ [14, 15, 20, 21, 22, 23, 24, 25, 26, 27, 28, 29, 30, 31, 32, 33, 34, 35, 36, 37, 38, 39, 40, 41, 42, 43, 44, 45, 46, 47, 48, 49, 50] (by decide +kernel) (by decide +kernel)
set_option maxRecDepth 20000 in
theorem gX8_died_X8_isChief : GoodIn wsX8_died (wsV RX8 184 RX8 yX8_isChief wsX8_isChief) := goodIn_app (goodIn_of _ (by decide +kernel)) ggX8_died_X8_isChief
set_option maxRecDepth 20000 in
theorem ggX8_died_X8_bad : GoodIn wsX8_died wsX8_bad := goodIn_r _ [19, 1, 20, 21, 22, 23, 24, 25, 26, 27, 28, 29, 30, 31, 32, 33, 34, 35, 36, 37, 38, 39, 40, 41, 42, 43, 44, 45, 46, 47, 48, 49, 50] (by decide +kernel) (by decide +kernel)
set_option maxRecDepth 20000 in
theorem gX8_died_X8_bad : GoodIn wsX8_died (wsV RX8 78 RX8 yX8_bad wsX8_bad) := goodIn_app (goodIn_of _ (by decide +kernel)) ggX8_died_X8_bad
theorem dX8_died_0 : decode cX8_died 0 = .ok (.aload_n 0, 1) := by decide +kernel
theorem dX8_died_1 : decode cX8_died 1 = .ok (.iconst 0, 1) := by decide +kernel
theorem dX8_died_2 : decode cX8_died 2 = .ok (.putfield 74, 3) := by decide +kernel
theorem dX8_died_5 : decode cX8_died 5 = .ok (.aload_n 0, 1) := by decide +kernel
theorem dX8_died_6 : decode cX8_died 6 = .ok (.aload_n 0, 1) := by decide +kernel
theorem dX8_died_7 : decode cX8_died 7 = .ok (.iload_n 1, 1) := by decide +kernel
theorem dX8_died_8 : decode cX8_died 8 = .ok (.invokevirtual 184, 3) := by decide +kernel
theorem dX8_died_11 : decode cX8_died 11 = .ok (.ifCond .eq 11, 3) := by decide +kernel
theorem dX8_died_14 : decode cX8_died 14 = .ok (.aload_n 0, 1) := by decide +kernel
theorem dX8_died_15 : decode cX8_died 15 = .ok (.iload_n 2, 1) := by decide +kernel
theorem dX8_died_16 : decode cX8_died 16 = .ok (.invokevirtual 184, 3) := by decide +kernel
theorem dX8_died_19 : decode cX8_died 19 = .ok (.ifCond .ne 7, 3) := by decide +kernel
theorem dX8_died_22 : decode cX8_died 22 = .ok (.iconst 1, 1) := by decide +kernel
theorem dX8_died_23 : decode cX8_died 23 = .ok (.goto 4, 3) := by decide +kernel
theorem dX8_died_26 : decode cX8_died 26 = .ok (.iconst 0, 1) := by decide +kernel
theorem dX8_died_27 : decode cX8_died 27 = .ok (.iconst 1, 1) := by decide +kernel
theorem dX8_died_28 : decode cX8_died 28 = .ok (.invokevirtual 78, 3) := by decide +kernel
theorem dX8_died_31 : decode cX8_died 31 = .ok (.ifCond .ne 52, 3) := by decide +kernel
theorem dX8_died_34 : decode cX8_died 34 = .ok (.aload_n 0, 1) := by decide +kernel
theorem dX8_died_35 : decode cX8_died 35 = .ok (.iload_n 1, 1) := by decide +kernel
theorem dX8_died_36 : decode cX8_died 36 = .ok (.iload_n 2, 1) := by decide +kernel
theorem dX8_died_37 : decode cX8_died 37 = .ok (.if_icmp .ne 7, 3) := by decide +kernel
theorem dX8_died_40 : decode cX8_died 40 = .ok (.iconst 1, 1) := by decide +kernel
theorem dX8_died_41 : decode cX8_died 41 = .ok (.goto 4, 3) := by decide +kernel
theorem dX8_died_44 : decode cX8_died 44 = .ok (.iconst 0, 1) := by decide +kernel
theorem dX8_died_45 : decode cX8_died 45 = .ok (.iconst 2, 1) := by decide +kernel
theorem dX8_died_46 : decode cX8_died 46 = .ok (.invokevirtual 78, 3) := by decide +kernel
theorem dX8_died_49 : decode cX8_died 49 = .ok (.ifCond .ne 34, 3) := by decide +kernel
theorem dX8_died_52 : decode cX8_died 52 = .ok (.aload_n 0, 1) := by decide +kernel
theorem dX8_died_53 : decode cX8_died 53 = .ok (.aload_n 0, 1) := by decide +kernel
theorem dX8_died_54 : decode cX8_died 54 = .ok (.getfield 17, 3) := by decide +kernel
theorem dX8_died_57 : decode cX8_died 57 = .ok (.iload_n 1, 1) := by decide +kernel
theorem dX8_died_58 : decode cX8_died 58 = .ok (.baload, 1) := by decide +kernel
theorem dX8_died_59 : decode cX8_died 59 = .ok (.ifCond .ne 12, 3) := by decide +kernel
theorem dX8_died_62 : decode cX8_died 62 = .ok (.aload_n 0, 1) := by decide +kernel
theorem dX8_died_63 : decode cX8_died 63 = .ok (.getfield 17, 3) := by decide +kernel
theorem dX8_died_66 : decode cX8_died 66 = .ok (.iload_n 2, 1) := by decide +kernel
theorem dX8_died_67 : decode cX8_died 67 = .ok (.baload, 1) := by decide +kernel
theorem dX8_died_68 : decode cX8_died 68 = .ok (.ifCond .eq 7, 3) := by decide +kernel
theorem dX8_died_71 : decode cX8_died 71 = .ok (.iconst 1, 1) := by decide +kernel
theorem dX8_died_72 : decode cX8_died 72 = .ok (.goto 4, 3) := by decide +kernel
theorem dX8_died_75 : decode cX8_died 75 = .ok (.iconst 0, 1) := by decide +kernel
theorem dX8_died_76 : decode cX8_died 76 = .ok (.iconst 3, 1) := by decide +kernel
theorem dX8_died_77 : decode cX8_died 77 = .ok (.invokevirtual 78, 3) := by decide +kernel
theorem dX8_died_80 : decode cX8_died 80 = .ok (.ifCond .eq 5, 3) := by decide +kernel
theorem dX8_died_83 : decode cX8_died 83 = .ok (.iconst 0, 1) := by decide +kernel
theorem dX8_died_84 : decode cX8_died 84 = .ok (.ireturn, 1) := by decide +kernel
theorem dX8_died_85 : decode cX8_died 85 = .ok (.aload_n 0, 1) := by decide +kernel
theorem dX8_died_86 : decode cX8_died 86 = .ok (.getfield 17, 3) := by decide +kernel
theorem dX8_died_89 : decode cX8_died 89 = .ok (.iload_n 1, 1) := by decide +kernel
theorem dX8_died_90 : decode cX8_died 90 = .ok (.iconst 1, 1) := by decide +kernel
theorem dX8_died_91 : decode cX8_died 91 = .ok (.bastore, 1) := by decide +kernel
theorem dX8_died_92 : decode cX8_died 92 = .ok (.aload_n 0, 1) := by decide +kernel
theorem dX8_died_93 : decode cX8_died 93 = .ok (.getfield 9, 3) := by decide +kernel
theorem dX8_died_96 : decode cX8_died 96 = .ok (.iload_n 2, 1) := by decide +kernel
theorem dX8_died_97 : decode cX8_died 97 = .ok (.dup2, 1) := by decide +kernel
theorem dX8_died_98 : decode cX8_died 98 = .ok (.iaload, 1) := by decide +kernel
theorem dX8_died_99 : decode cX8_died 99 = .ok (.aload_n 0, 1) := by decide +kernel
theorem dX8_died_100 : decode cX8_died 100 = .ok (.getfield 9, 3) := by decide +kernel
theorem dX8_died_103 : decode cX8_died 103 = .ok (.iload_n 1, 1) := by decide +kernel
theorem dX8_died_104 : decode cX8_died 104 = .ok (.iaload, 1) := by decide +kernel
theorem dX8_died_105 : decode cX8_died 105 = .ok (.iadd, 1) := by decide +kernel
theorem dX8_died_106 : decode cX8_died 106 = .ok (.iastore, 1) := by decide +kernel
theorem dX8_died_107 : decode cX8_died 107 = .ok (.aload_n 0, 1) := by decide +kernel
theorem dX8_died_108 : decode cX8_died 108 = .ok (.getfield 9, 3) := by decide +kernel
theorem dX8_died_111 : decode cX8_died 111 = .ok (.iload_n 1, 1) := by decide +kernel
theorem dX8_died_112 : decode cX8_died 112 = .ok (.iconst 0, 1) := by decide +kernel
theorem dX8_died_113 : decode cX8_died 113 = .ok (.iastore, 1) := by decide +kernel
theorem dX8_died_114 : decode cX8_died 114 = .ok (.iconst 0, 1) := by decide +kernel
theorem dX8_died_115 : decode cX8_died 115 = .ok (.istore_n 3, 1) := by decide +kernel
theorem dX8_died_116 : decode cX8_died 116 = .ok (.iload_n 3, 1) := by decide +kernel
theorem dX8_died_117 : decode cX8_died 117 = .ok (.aload_n 0, 1) := by decide +kernel
theorem dX8_died_118 : decode cX8_died 118 = .ok (.getfield 195, 3) := by decide +kernel
theorem dX8_died_121 : decode cX8_died 121 = .ok (.if_icmp .ge 26, 3) := by decide +kernel
theorem dX8_died_124 : decode cX8_died 124 = .ok (.aload_n 0, 1) := by decide +kernel
theorem dX8_died_125 : decode cX8_died 125 = .ok (.getfield 50, 3) := by decide +kernel
theorem dX8_died_128 : decode cX8_died 128 = .ok (.iload_n 3, 1) := by decide +kernel
theorem dX8_died_129 : decode cX8_died 129 = .ok (.iaload, 1) := by decide +kernel
theorem dX8_died_130 : decode cX8_died 130 = .ok (.iload_n 1, 1) := by decide +kernel
theorem dX8_died_131 : decode cX8_died 131 = .ok (.if_icmp .ne 10, 3) := by decide +kernel
theorem dX8_died_134 : decode cX8_died 134 = .ok (.aload_n 0, 1) := by decide +kernel
theorem dX8_died_135 : decode cX8_died 135 = .ok (.getfield 50, 3) := by decide +kernel
theorem dX8_died_138 : decode cX8_died 138 = .ok (.iload_n 3, 1) := by decide +kernel
theorem dX8_died_139 : decode cX8_died 139 = .ok (.iload_n 2, 1) := by decide +kernel
theorem dX8_died_140 : decode cX8_died 140 = .ok (.iastore, 1) := by decide +kernel
theorem dX8_died_141 : decode cX8_died 141 = .ok (.iinc 3 1, 3) := by decide +kernel
theorem dX8_died_144 : decode cX8_died 144 = .ok (.goto (-28), 3) := by decide +kernel
theorem dX8_died_147 : decode cX8_died 147 = .ok (.iconst 0, 1) := by decide +kernel
theorem dX8_died_148 : decode cX8_died 148 = .ok (.istore_n 3, 1) := by decide +kernel
theorem dX8_died_149 : decode cX8_died 149 = .ok (.iconst 0, 1) := by decide +kernel
theorem dX8_died_150 : decode cX8_died 150 = .ok (.istore 4, 2) := by decide +kernel
theorem dX8_died_152 : decode cX8_died 152 = .ok (.iload 4, 2) := by decide +kernel
theorem dX8_died_154 : decode cX8_died 154 = .ok (.aload_n 0, 1) := by decide +kernel
theorem dX8_died_155 : decode cX8_died 155 = .ok (.getfield 160, 3) := by decide +kernel
theorem dX8_died_158 : decode cX8_died 158 = .ok (.if_icmp .ge 112, 3) := by decide +kernel
theorem dX8_died_161 : decode cX8_died 161 = .ok (.aload_n 0, 1) := by decide +kernel
theorem dX8_died_162 : decode cX8_died 162 = .ok (.getfield 41, 3) := by decide +kernel
theorem dX8_died_165 : decode cX8_died 165 = .ok (.iload 4, 2) := by decide +kernel
theorem dX8_died_167 : decode cX8_died 167 = .ok (.laload, 1) := by decide +kernel
end
section
theorem dX8_died_168 : decode cX8_died 168 = .ok (.lconst 0, 1) := by decide +kernel
theorem dX8_died_169 : decode cX8_died 169 = .ok (.lcmp, 1) := by decide +kernel
theorem dX8_died_170 : decode cX8_died 170 = .ok (.ifCond .eq 94, 3) := by decide +kernel
theorem dX8_died_173 : decode cX8_died 173 = .ok (.aload_n 0, 1) := by decide +kernel
theorem dX8_died_174 : decode cX8_died 174 = .ok (.getfield 35, 3) := by decide +kernel
theorem dX8_died_177 : decode cX8_died 177 = .ok (.iload 4, 2) := by decide +kernel
theorem dX8_died_179 : decode cX8_died 179 = .ok (.iaload, 1) := by decide +kernel
theorem dX8_died_180 : decode cX8_died 180 = .ok (.iload_n 1, 1) := by decide +kernel
theorem dX8_died_181 : decode cX8_died 181 = .ok (.if_icmp .eq 17, 3) := by decide +kernel
theorem dX8_died_184 : decode cX8_died 184 = .ok (.aload_n 0, 1) := by decide +kernel
theorem dX8_died_185 : decode cX8_died 185 = .ok (.getfield 38, 3) := by decide +kernel
theorem dX8_died_188 : decode cX8_died 188 = .ok (.iload 4, 2) := by decide +kernel
theorem dX8_died_190 : decode cX8_died 190 = .ok (.iaload, 1) := by decide +kernel
theorem dX8_died_191 : decode cX8_died 191 = .ok (.iload_n 1, 1) := by decide +kernel
theorem dX8_died_192 : decode cX8_died 192 = .ok (.if_icmp .eq 6, 3) := by decide +kernel
theorem dX8_died_195 : decode cX8_died 195 = .ok (.goto 69, 3) := by decide +kernel
theorem dX8_died_198 : decode cX8_died 198 = .ok (.aload_n 0, 1) := by decide +kernel
theorem dX8_died_199 : decode cX8_died 199 = .ok (.getfield 35, 3) := by decide +kernel
theorem dX8_died_202 : decode cX8_died 202 = .ok (.iload 4, 2) := by decide +kernel
theorem dX8_died_204 : decode cX8_died 204 = .ok (.iaload, 1) := by decide +kernel
theorem dX8_died_205 : decode cX8_died 205 = .ok (.iload_n 2, 1) := by decide +kernel
theorem dX8_died_206 : decode cX8_died 206 = .ok (.if_icmp .eq 14, 3) := by decide +kernel
theorem dX8_died_209 : decode cX8_died 209 = .ok (.aload_n 0, 1) := by decide +kernel
theorem dX8_died_210 : decode cX8_died 210 = .ok (.getfield 38, 3) := by decide +kernel
theorem dX8_died_213 : decode cX8_died 213 = .ok (.iload 4, 2) := by decide +kernel
theorem dX8_died_215 : decode cX8_died 215 = .ok (.iaload, 1) := by decide +kernel
theorem dX8_died_216 : decode cX8_died 216 = .ok (.iload_n 2, 1) := by decide +kernel
theorem dX8_died_217 : decode cX8_died 217 = .ok (.if_icmp .ne 14, 3) := by decide +kernel
theorem dX8_died_220 : decode cX8_died 220 = .ok (.aload_n 0, 1) := by decide +kernel
theorem dX8_died_221 : decode cX8_died 221 = .ok (.getfield 41, 3) := by decide +kernel
theorem dX8_died_224 : decode cX8_died 224 = .ok (.iload 4, 2) := by decide +kernel
theorem dX8_died_226 : decode cX8_died 226 = .ok (.lconst 0, 1) := by decide +kernel
theorem dX8_died_227 : decode cX8_died 227 = .ok (.lastore, 1) := by decide +kernel
theorem dX8_died_228 : decode cX8_died 228 = .ok (.goto 36, 3) := by decide +kernel
theorem dX8_died_231 : decode cX8_died 231 = .ok (.aload_n 0, 1) := by decide +kernel
theorem dX8_died_232 : decode cX8_died 232 = .ok (.getfield 35, 3) := by decide +kernel
theorem dX8_died_235 : decode cX8_died 235 = .ok (.iload 4, 2) := by decide +kernel
theorem dX8_died_237 : decode cX8_died 237 = .ok (.iaload, 1) := by decide +kernel
theorem dX8_died_238 : decode cX8_died 238 = .ok (.iload_n 1, 1) := by decide +kernel
theorem dX8_died_239 : decode cX8_died 239 = .ok (.if_icmp .ne 14, 3) := by decide +kernel
theorem dX8_died_242 : decode cX8_died 242 = .ok (.aload_n 0, 1) := by decide +kernel
theorem dX8_died_243 : decode cX8_died 243 = .ok (.getfield 35, 3) := by decide +kernel
theorem dX8_died_246 : decode cX8_died 246 = .ok (.iload 4, 2) := by decide +kernel
theorem dX8_died_248 : decode cX8_died 248 = .ok (.iload_n 2, 1) := by decide +kernel
theorem dX8_died_249 : decode cX8_died 249 = .ok (.iastore, 1) := by decide +kernel
theorem dX8_died_250 : decode cX8_died 250 = .ok (.goto 11, 3) := by decide +kernel
theorem dX8_died_253 : decode cX8_died 253 = .ok (.aload_n 0, 1) := by decide +kernel
theorem dX8_died_254 : decode cX8_died 254 = .ok (.getfield 38, 3) := by decide +kernel
theorem dX8_died_257 : decode cX8_died 257 = .ok (.iload 4, 2) := by decide +kernel
theorem dX8_died_259 : decode cX8_died 259 = .ok (.iload_n 2, 1) := by decide +kernel
theorem dX8_died_260 : decode cX8_died 260 = .ok (.iastore, 1) := by decide +kernel
theorem dX8_died_261 : decode cX8_died 261 = .ok (.iinc 3 1, 3) := by decide +kernel
theorem dX8_died_264 : decode cX8_died 264 = .ok (.iinc 4 1, 3) := by decide +kernel
theorem dX8_died_267 : decode cX8_died 267 = .ok (.goto (-115), 3) := by decide +kernel
theorem dX8_died_270 : decode cX8_died 270 = .ok (.iload_n 3, 1) := by decide +kernel
theorem dX8_died_271 : decode cX8_died 271 = .ok (.ireturn, 1) := by decide +kernel
set_option maxRecDepth 20000 in
theorem ggX8_wait_X8_bad : GoodIn wsX8_wait wsX8_bad := goodIn_r _ [11, 1, 23, 24, 25, 26, 27, 28, 29, 30, 31, 32, 33, 34, 35, 36, 37, 38, 39, 40, 41, 42, 43, 44, 45, 46, 47, 48, 49, 50, 51, 52, 53] (by decide +kernel) (by decide +kernel)
set_option maxRecDepth 20000 in
theorem gX8_wait_X8_bad : GoodIn wsX8_wait (wsV RX8 78 RX8 yX8_bad wsX8_bad) := goodIn_app (goodIn_of _ (by decide +kernel)) ggX8_wait_X8_bad
set_option maxRecDepth 20000 in
theorem ggX8_wait_X8_term : GoodIn wsX8_wait wsX8_term := goodIn_r _ [15, 2, 16, 17, 18, 19, 10, 20, 21, 22, 23, 24, 25, 26, 27, 28, 29, 30, 31, 32, 33, 34, 35, 36, 37, 38, 39, 40, 41, 42, 43, 44, 45, 46, 47, 48, 49, 50, 51, 52, 53] (by decide +kernel) (by decide +kernel)
set_option maxRecDepth 20000 in
theorem gX8_wait_X8_term : GoodIn wsX8_wait (wsV RX8 167 RX8 yX8_term wsX8_term) := goodIn_app (goodIn_of _ (by decide +kernel)) ggX8_wait_X8_term
theorem dX8_wait_0 : decode cX8_wait 0 = .ok (.aload_n 0, 1) := by decide +kernel
theorem dX8_wait_1 : decode cX8_wait 1 = .ok (.iconst 0, 1) := by decide +kernel
theorem dX8_wait_2 : decode cX8_wait 2 = .ok (.putfield 74, 3) := by decide +kernel
theorem dX8_wait_5 : decode cX8_wait 5 = .ok (.aload_n 0, 1) := by decide +kernel
theorem dX8_wait_6 : decode cX8_wait 6 = .ok (.iload_n 1, 1) := by decide +kernel
theorem dX8_wait_7 : decode cX8_wait 7 = .ok (.ifCond .lt 21, 3) := by decide +kernel
theorem dX8_wait_10 : decode cX8_wait 10 = .ok (.iload_n 1, 1) := by decide +kernel
theorem dX8_wait_11 : decode cX8_wait 11 = .ok (.bipush 100, 2) := by decide +kernel
theorem dX8_wait_13 : decode cX8_wait 13 = .ok (.if_icmp .gt 15, 3) := by decide +kernel
theorem dX8_wait_16 : decode cX8_wait 16 = .ok (.aload_n 0, 1) := by decide +kernel
theorem dX8_wait_17 : decode cX8_wait 17 = .ok (.getfield 157, 3) := by decide +kernel
theorem dX8_wait_20 : decode cX8_wait 20 = .ok (.iload_n 1, 1) := by decide +kernel
theorem dX8_wait_21 : decode cX8_wait 21 = .ok (.iadd, 1) := by decide +kernel
theorem dX8_wait_22 : decode cX8_wait 22 = .ok (.sipush 1000, 3) := by decide +kernel
theorem dX8_wait_25 : decode cX8_wait 25 = .ok (.if_icmp .le 7, 3) := by decide +kernel
theorem dX8_wait_28 : decode cX8_wait 28 = .ok (.iconst 1, 1) := by decide +kernel
theorem dX8_wait_29 : decode cX8_wait 29 = .ok (.goto 4, 3) := by decide +kernel
theorem dX8_wait_32 : decode cX8_wait 32 = .ok (.iconst 0, 1) := by decide +kernel
theorem dX8_wait_33 : decode cX8_wait 33 = .ok (.iconst 1, 1) := by decide +kernel
theorem dX8_wait_34 : decode cX8_wait 34 = .ok (.invokevirtual 78, 3) := by decide +kernel
theorem dX8_wait_37 : decode cX8_wait 37 = .ok (.ifCond .eq 5, 3) := by decide +kernel
theorem dX8_wait_40 : decode cX8_wait 40 = .ok (.iconst 0, 1) := by decide +kernel
theorem dX8_wait_41 : decode cX8_wait 41 = .ok (.ireturn, 1) := by decide +kernel
theorem dX8_wait_42 : decode cX8_wait 42 = .ok (.iconst 0, 1) := by decide +kernel
theorem dX8_wait_43 : decode cX8_wait 43 = .ok (.istore_n 2, 1) := by decide +kernel
theorem dX8_wait_44 : decode cX8_wait 44 = .ok (.iload_n 2, 1) := by decide +kernel
theorem dX8_wait_45 : decode cX8_wait 45 = .ok (.iload_n 1, 1) := by decide +kernel
theorem dX8_wait_46 : decode cX8_wait 46 = .ok (.if_icmp .ge 126, 3) := by decide +kernel
theorem dX8_wait_49 : decode cX8_wait 49 = .ok (.aload_n 0, 1) := by decide +kernel
theorem dX8_wait_50 : decode cX8_wait 50 = .ok (.iconst 3, 1) := by decide +kernel
theorem dX8_wait_51 : decode cX8_wait 51 = .ok (.invokevirtual 167, 3) := by decide +kernel
theorem dX8_wait_54 : decode cX8_wait 54 = .ok (.istore_n 3, 1) := by decide +kernel
theorem dX8_wait_55 : decode cX8_wait 55 = .ok (.aload_n 0, 1) := by decide +kernel
theorem dX8_wait_56 : decode cX8_wait 56 = .ok (.iconst 4, 1) := by decide +kernel
theorem dX8_wait_57 : decode cX8_wait 57 = .ok (.invokevirtual 167, 3) := by decide +kernel
theorem dX8_wait_60 : decode cX8_wait 60 = .ok (.istore 4, 2) := by decide +kernel
theorem dX8_wait_62 : decode cX8_wait 62 = .ok (.iconst 0, 1) := by decide +kernel
theorem dX8_wait_63 : decode cX8_wait 63 = .ok (.istore 5, 2) := by decide +kernel
theorem dX8_wait_65 : decode cX8_wait 65 = .ok (.iload 5, 2) := by decide +kernel
theorem dX8_wait_67 : decode cX8_wait 67 = .ok (.aload_n 0, 1) := by decide +kernel
theorem dX8_wait_68 : decode cX8_wait 68 = .ok (.getfield 160, 3) := by decide +kernel
theorem dX8_wait_71 : decode cX8_wait 71 = .ok (.if_icmp .ge 85, 3) := by decide +kernel
theorem dX8_wait_74 : decode cX8_wait 74 = .ok (.iload 4, 2) := by decide +kernel
theorem dX8_wait_76 : decode cX8_wait 76 = .ok (.ifCond .le 80, 3) := by decide +kernel
theorem dX8_wait_79 : decode cX8_wait 79 = .ok (.aload_n 0, 1) := by decide +kernel
theorem dX8_wait_80 : decode cX8_wait 80 = .ok (.getfield 44, 3) := by decide +kernel
theorem dX8_wait_83 : decode cX8_wait 83 = .ok (.iload 5, 2) := by decide +kernel
theorem dX8_wait_85 : decode cX8_wait 85 = .ok (.baload, 1) := by decide +kernel
theorem dX8_wait_86 : decode cX8_wait 86 = .ok (.ifCond .ne 6, 3) := by decide +kernel
theorem dX8_wait_89 : decode cX8_wait 89 = .ok (.goto 61, 3) := by decide +kernel
theorem dX8_wait_92 : decode cX8_wait 92 = .ok (.aload_n 0, 1) := by decide +kernel
theorem dX8_wait_93 : decode cX8_wait 93 = .ok (.getfield 41, 3) := by decide +kernel
theorem dX8_wait_96 : decode cX8_wait 96 = .ok (.iload 5, 2) := by decide +kernel
theorem dX8_wait_98 : decode cX8_wait 98 = .ok (.dup2, 1) := by decide +kernel
theorem dX8_wait_99 : decode cX8_wait 99 = .ok (.laload, 1) := by decide +kernel
theorem dX8_wait_100 : decode cX8_wait 100 = .ok (.aload_n 0, 1) := by decide +kernel
theorem dX8_wait_101 : decode cX8_wait 101 = .ok (.getfield 41, 3) := by decide +kernel
theorem dX8_wait_104 : decode cX8_wait 104 = .ok (.iload 5, 2) := by decide +kernel
theorem dX8_wait_106 : decode cX8_wait 106 = .ok (.laload, 1) := by decide +kernel
theorem dX8_wait_107 : decode cX8_wait 107 = .ok (.iload_n 3, 1) := by decide +kernel
theorem dX8_wait_108 : decode cX8_wait 108 = .ok (.i2l, 1) := by decide +kernel
theorem dX8_wait_109 : decode cX8_wait 109 = .ok (.lmul, 1) := by decide +kernel
theorem dX8_wait_110 : decode cX8_wait 110 = .ok (.iload 4, 2) := by decide +kernel
theorem dX8_wait_112 : decode cX8_wait 112 = .ok (.i2l, 1) := by decide +kernel
theorem dX8_wait_113 : decode cX8_wait 113 = .ok (.ldiv, 1) := by decide +kernel
theorem dX8_wait_114 : decode cX8_wait 114 = .ok (.ladd, 1) := by decide +kernel
theorem dX8_wait_115 : decode cX8_wait 115 = .ok (.lastore, 1) := by decide +kernel
theorem dX8_wait_116 : decode cX8_wait 116 = .ok (.aload_n 0, 1) := by decide +kernel
theorem dX8_wait_117 : decode cX8_wait 117 = .ok (.getfield 41, 3) := by decide +kernel
theorem dX8_wait_120 : decode cX8_wait 120 = .ok (.iload 5, 2) := by decide +kernel
theorem dX8_wait_122 : decode cX8_wait 122 = .ok (.aload_n 0, 1) := by decide +kernel
theorem dX8_wait_123 : decode cX8_wait 123 = .ok (.getfield 41, 3) := by decide +kernel
theorem dX8_wait_126 : decode cX8_wait 126 = .ok (.iload 5, 2) := by decide +kernel
theorem dX8_wait_128 : decode cX8_wait 128 = .ok (.laload, 1) := by decide +kernel
theorem dX8_wait_129 : decode cX8_wait 129 = .ok (.ldc2_w 170, 3) := by decide +kernel
theorem dX8_wait_132 : decode cX8_wait 132 = .ok (.lcmp, 1) := by decide +kernel
theorem dX8_wait_133 : decode cX8_wait 133 = .ok (.ifCond .le 9, 3) := by decide +kernel
theorem dX8_wait_136 : decode cX8_wait 136 = .ok (.ldc2_w 170, 3) := by decide +kernel
theorem dX8_wait_139 : decode cX8_wait 139 = .ok (.goto 10, 3) := by decide +kernel
theorem dX8_wait_142 : decode cX8_wait 142 = .ok (.aload_n 0, 1) := by decide +kernel
theorem dX8_wait_143 : decode cX8_wait 143 = .ok (.getfield 41, 3) := by decide +kernel
theorem dX8_wait_146 : decode cX8_wait 146 = .ok (.iload 5, 2) := by decide +kernel
theorem dX8_wait_148 : decode cX8_wait 148 = .ok (.laload, 1) := by decide +kernel
theorem dX8_wait_149 : decode cX8_wait 149 = .ok (.lastore, 1) := by decide +kernel
theorem dX8_wait_150 : decode cX8_wait 150 = .ok (.iinc 5 1, 3) := by decide +kernel
theorem dX8_wait_153 : decode cX8_wait 153 = .ok (.goto (-88), 3) := by decide +kernel
theorem dX8_wait_156 : decode cX8_wait 156 = .ok (.aload_n 0, 1) := by decide +kernel
theorem dX8_wait_157 : decode cX8_wait 157 = .ok (.dup, 1) := by decide +kernel
theorem dX8_wait_158 : decode cX8_wait 158 = .ok (.getfield 157, 3) := by decide +kernel
theorem dX8_wait_161 : decode cX8_wait 161 = .ok (.iconst 1, 1) := by decide +kernel
theorem dX8_wait_162 : decode cX8_wait 162 = .ok (.iadd, 1) := by decide +kernel
theorem dX8_wait_163 : decode cX8_wait 163 = .ok (.putfield 157, 3) := by decide +kernel
theorem dX8_wait_166 : decode cX8_wait 166 = .ok (.iinc 2 1, 3) := by decide +kernel
theorem dX8_wait_169 : decode cX8_wait 169 = .ok (.goto (-125), 3) := by decide +kernel
theorem dX8_wait_172 : decode cX8_wait 172 = .ok (.aload_n 0, 1) := by decide +kernel
theorem dX8_wait_173 : decode cX8_wait 173 = .ok (.getfield 157, 3) := by decide +kernel
theorem dX8_wait_176 : decode cX8_wait 176 = .ok (.ireturn, 1) := by decide +kernel
set_option maxRecDepth 20000 in
theorem ggX8_debt_X8_bad : GoodIn wsX8_debt wsX8_bad := goodIn_r _ [12, 1, 13, 14, 15, 16, 17, 18, 19, 20, 21, 22, 23, 24, 25, 26, 27, 28, 29, 30, 31, 32, 33, 34, 35, 36, 37, 38, 39, 40, 41, 42, 43] (by decide +kernel) (by decide +kernel)
set_option maxRecDepth 20000 in
theorem gX8_debt_X8_bad : GoodIn wsX8_debt (wsV RX8 78 RX8 yX8_bad wsX8_bad) := goodIn_app (goodIn_of _ (by decide +kernel)) ggX8_debt_X8_bad
theorem dX8_debt_0 : decode cX8_debt 0 = .ok (.aload_n 0, 1) := by decide +kernel
theorem dX8_debt_1 : decode cX8_debt 1 = .ok (.iconst 0, 1) := by decide +kernel
theorem dX8_debt_2 : decode cX8_debt 2 = .ok (.putfield 74, 3) := by decide +kernel
theorem dX8_debt_5 : decode cX8_debt 5 = .ok (.aload_n 0, 1) := by decide +kernel
theorem dX8_debt_6 : decode cX8_debt 6 = .ok (.iload_n 1, 1) := by decide +kernel
theorem dX8_debt_7 : decode cX8_debt 7 = .ok (.ifCond .lt 11, 3) := by decide +kernel
theorem dX8_debt_10 : decode cX8_debt 10 = .ok (.iload_n 1, 1) := by decide +kernel
theorem dX8_debt_11 : decode cX8_debt 11 = .ok (.aload_n 0, 1) := by decide +kernel
theorem dX8_debt_12 : decode cX8_debt 12 = .ok (.getfield 160, 3) := by decide +kernel
theorem dX8_debt_15 : decode cX8_debt 15 = .ok (.if_icmp .lt 7, 3) := by decide +kernel
theorem dX8_debt_18 : decode cX8_debt 18 = .ok (.iconst 1, 1) := by decide +kernel
theorem dX8_debt_19 : decode cX8_debt 19 = .ok (.goto 4, 3) := by decide +kernel
theorem dX8_debt_22 : decode cX8_debt 22 = .ok (.iconst 0, 1) := by decide +kernel
theorem dX8_debt_23 : decode cX8_debt 23 = .ok (.iconst 1, 1) := by decide +kernel
theorem dX8_debt_24 : decode cX8_debt 24 = .ok (.invokevirtual 78, 3) := by decide +kernel
theorem dX8_debt_27 : decode cX8_debt 27 = .ok (.ifCond .ne 25, 3) := by decide +kernel
theorem dX8_debt_30 : decode cX8_debt 30 = .ok (.aload_n 0, 1) := by decide +kernel
theorem dX8_debt_31 : decode cX8_debt 31 = .ok (.iload_n 2, 1) := by decide +kernel
theorem dX8_debt_32 : decode cX8_debt 32 = .ok (.ifCond .lt 8, 3) := by decide +kernel
theorem dX8_debt_35 : decode cX8_debt 35 = .ok (.iload_n 2, 1) := by decide +kernel
theorem dX8_debt_36 : decode cX8_debt 36 = .ok (.iconst 4, 1) := by decide +kernel
theorem dX8_debt_37 : decode cX8_debt 37 = .ok (.if_icmp .le 7, 3) := by decide +kernel
theorem dX8_debt_40 : decode cX8_debt 40 = .ok (.iconst 1, 1) := by decide +kernel
theorem dX8_debt_41 : decode cX8_debt 41 = .ok (.goto 4, 3) := by decide +kernel
theorem dX8_debt_44 : decode cX8_debt 44 = .ok (.iconst 0, 1) := by decide +kernel
theorem dX8_debt_45 : decode cX8_debt 45 = .ok (.iconst 2, 1) := by decide +kernel
theorem dX8_debt_46 : decode cX8_debt 46 = .ok (.invokevirtual 78, 3) := by decide +kernel
theorem dX8_debt_49 : decode cX8_debt 49 = .ok (.ifCond .eq 5, 3) := by decide +kernel
theorem dX8_debt_52 : decode cX8_debt 52 = .ok (.iconst 0, 1) := by decide +kernel
theorem dX8_debt_53 : decode cX8_debt 53 = .ok (.ireturn, 1) := by decide +kernel
theorem dX8_debt_54 : decode cX8_debt 54 = .ok (.iload_n 2, 1) := by decide +kernel
theorem dX8_debt_55 : decode cX8_debt 55 = .ok (.ifCond .ne 12, 3) := by decide +kernel
theorem dX8_debt_58 : decode cX8_debt 58 = .ok (.aload_n 0, 1) := by decide +kernel
theorem dX8_debt_59 : decode cX8_debt 59 = .ok (.getfield 35, 3) := by decide +kernel
theorem dX8_debt_62 : decode cX8_debt 62 = .ok (.iload_n 1, 1) := by decide +kernel
theorem dX8_debt_63 : decode cX8_debt 63 = .ok (.iaload, 1) := by decide +kernel
theorem dX8_debt_64 : decode cX8_debt 64 = .ok (.goto 60, 3) := by decide +kernel
theorem dX8_debt_67 : decode cX8_debt 67 = .ok (.iload_n 2, 1) := by decide +kernel
theorem dX8_debt_68 : decode cX8_debt 68 = .ok (.iconst 1, 1) := by decide +kernel
theorem dX8_debt_69 : decode cX8_debt 69 = .ok (.if_icmp .ne 12, 3) := by decide +kernel
theorem dX8_debt_72 : decode cX8_debt 72 = .ok (.aload_n 0, 1) := by decide +kernel
theorem dX8_debt_73 : decode cX8_debt 73 = .ok (.getfield 38, 3) := by decide +kernel
theorem dX8_debt_76 : decode cX8_debt 76 = .ok (.iload_n 1, 1) := by decide +kernel
theorem dX8_debt_77 : decode cX8_debt 77 = .ok (.iaload, 1) := by decide +kernel
theorem dX8_debt_78 : decode cX8_debt 78 = .ok (.goto 46, 3) := by decide +kernel
theorem dX8_debt_81 : decode cX8_debt 81 = .ok (.iload_n 2, 1) := by decide +kernel
theorem dX8_debt_82 : decode cX8_debt 82 = .ok (.iconst 2, 1) := by decide +kernel
theorem dX8_debt_83 : decode cX8_debt 83 = .ok (.if_icmp .ne 13, 3) := by decide +kernel
theorem dX8_debt_86 : decode cX8_debt 86 = .ok (.aload_n 0, 1) := by decide +kernel
theorem dX8_debt_87 : decode cX8_debt 87 = .ok (.getfield 41, 3) := by decide +kernel
theorem dX8_debt_90 : decode cX8_debt 90 = .ok (.iload_n 1, 1) := by decide +kernel
theorem dX8_debt_91 : decode cX8_debt 91 = .ok (.laload, 1) := by decide +kernel
theorem dX8_debt_92 : decode cX8_debt 92 = .ok (.l2i, 1) := by decide +kernel
theorem dX8_debt_93 : decode cX8_debt 93 = .ok (.goto 31, 3) := by decide +kernel
theorem dX8_debt_96 : decode cX8_debt 96 = .ok (.iload_n 2, 1) := by decide +kernel
theorem dX8_debt_97 : decode cX8_debt 97 = .ok (.iconst 3, 1) := by decide +kernel
theorem dX8_debt_98 : decode cX8_debt 98 = .ok (.if_icmp .ne 20, 3) := by decide +kernel
theorem dX8_debt_101 : decode cX8_debt 101 = .ok (.aload_n 0, 1) := by decide +kernel
theorem dX8_debt_102 : decode cX8_debt 102 = .ok (.getfield 44, 3) := by decide +kernel
theorem dX8_debt_105 : decode cX8_debt 105 = .ok (.iload_n 1, 1) := by decide +kernel
theorem dX8_debt_106 : decode cX8_debt 106 = .ok (.baload, 1) := by decide +kernel
theorem dX8_debt_107 : decode cX8_debt 107 = .ok (.ifCond .eq 7, 3) := by decide +kernel
theorem dX8_debt_110 : decode cX8_debt 110 = .ok (.iconst 1, 1) := by decide +kernel
theorem dX8_debt_111 : decode cX8_debt 111 = .ok (.goto 13, 3) := by decide +kernel
theorem dX8_debt_114 : decode cX8_debt 114 = .ok (.iconst 0, 1) := by decide +kernel
theorem dX8_debt_115 : decode cX8_debt 115 = .ok (.goto 9, 3) := by decide +kernel
theorem dX8_debt_118 : decode cX8_debt 118 = .ok (.aload_n 0, 1) := by decide +kernel
theorem dX8_debt_119 : decode cX8_debt 119 = .ok (.getfield 47, 3) := by decide +kernel
theorem dX8_debt_122 : decode cX8_debt 122 = .ok (.iload_n 1, 1) := by decide +kernel
theorem dX8_debt_123 : decode cX8_debt 123 = .ok (.iaload, 1) := by decide +kernel
theorem dX8_debt_124 : decode cX8_debt 124 = .ok (.ireturn, 1) := by decide +kernel
theorem dX8_late_0 : decode cX8_late 0 = .ok (.aload_n 0, 1) := by decide +kernel
theorem dX8_late_1 : decode cX8_late 1 = .ok (.iconst 0, 1) := by decide +kernel
theorem dX8_late_2 : decode cX8_late 2 = .ok (.putfield 74, 3) := by decide +kernel
theorem dX8_late_5 : decode cX8_late 5 = .ok (.iload_n 1, 1) := by decide +kernel
theorem dX8_late_6 : decode cX8_late 6 = .ok (.istore_n 2, 1) := by decide +kernel
theorem dX8_late_7 : decode cX8_late 7 = .ok (.iconst 0, 1) := by decide +kernel
theorem dX8_late_8 : decode cX8_late 8 = .ok (.istore_n 3, 1) := by decide +kernel
theorem dX8_late_9 : decode cX8_late 9 = .ok (.iload_n 3, 1) := by decide +kernel
theorem dX8_late_10 : decode cX8_late 10 = .ok (.aload_n 0, 1) := by decide +kernel
theorem dX8_late_11 : decode cX8_late 11 = .ok (.getfield 160, 3) := by decide +kernel
theorem dX8_late_14 : decode cX8_late 14 = .ok (.if_icmp .ge 58, 3) := by decide +kernel
theorem dX8_late_17 : decode cX8_late 17 = .ok (.iload_n 1, 1) := by decide +kernel
theorem dX8_late_18 : decode cX8_late 18 = .ok (.ifCond .lt 54, 3) := by decide +kernel
theorem dX8_late_21 : decode cX8_late 21 = .ok (.aload_n 0, 1) := by decide +kernel
theorem dX8_late_22 : decode cX8_late 22 = .ok (.getfield 44, 3) := by decide +kernel
theorem dX8_late_25 : decode cX8_late 25 = .ok (.iload_n 3, 1) := by decide +kernel
theorem dX8_late_26 : decode cX8_late 26 = .ok (.baload, 1) := by decide +kernel
theorem dX8_late_27 : decode cX8_late 27 = .ok (.ifCond .ne 39, 3) := by decide +kernel
theorem dX8_late_30 : decode cX8_late 30 = .ok (.aload_n 0, 1) := by decide +kernel
theorem dX8_late_31 : decode cX8_late 31 = .ok (.getfield 41, 3) := by decide +kernel
theorem dX8_late_34 : decode cX8_late 34 = .ok (.iload_n 3, 1) := by decide +kernel
theorem dX8_late_35 : decode cX8_late 35 = .ok (.laload, 1) := by decide +kernel
theorem dX8_late_36 : decode cX8_late 36 = .ok (.lconst 0, 1) := by decide +kernel
theorem dX8_late_37 : decode cX8_late 37 = .ok (.lcmp, 1) := by decide +kernel
theorem dX8_late_38 : decode cX8_late 38 = .ok (.ifCond .eq 28, 3) := by decide +kernel
theorem dX8_late_41 : decode cX8_late 41 = .ok (.aload_n 0, 1) := by decide +kernel
theorem dX8_late_42 : decode cX8_late 42 = .ok (.getfield 47, 3) := by decide +kernel
theorem dX8_late_45 : decode cX8_late 45 = .ok (.iload_n 3, 1) := by decide +kernel
theorem dX8_late_46 : decode cX8_late 46 = .ok (.iaload, 1) := by decide +kernel
theorem dX8_late_47 : decode cX8_late 47 = .ok (.aload_n 0, 1) := by decide +kernel
theorem dX8_late_48 : decode cX8_late 48 = .ok (.getfield 157, 3) := by decide +kernel
theorem dX8_late_51 : decode cX8_late 51 = .ok (.if_icmp .lt 6, 3) := by decide +kernel
theorem dX8_late_54 : decode cX8_late 54 = .ok (.goto 12, 3) := by decide +kernel
theorem dX8_late_57 : decode cX8_late 57 = .ok (.iload_n 2, 1) := by decide +kernel
theorem dX8_late_58 : decode cX8_late 58 = .ok (.ifCond .ne 5, 3) := by decide +kernel
theorem dX8_late_61 : decode cX8_late 61 = .ok (.iload_n 3, 1) := by decide +kernel
theorem dX8_late_62 : decode cX8_late 62 = .ok (.ireturn, 1) := by decide +kernel
theorem dX8_late_63 : decode cX8_late 63 = .ok (.iinc 2 (-1), 3) := by decide +kernel
theorem dX8_late_66 : decode cX8_late 66 = .ok (.iinc 3 1, 3) := by decide +kernel
theorem dX8_late_69 : decode cX8_late 69 = .ok (.goto (-60), 3) := by decide +kernel
theorem dX8_late_72 : decode cX8_late 72 = .ok (.iconst (-1), 1) := by decide +kernel
theorem dX8_late_73 : decode cX8_late 73 = .ok (.ireturn, 1) := by decide +kernel
set_option maxRecDepth 20000 in
theorem ggX8_about_X8_isChief : GoodIn wsX8_about wsX8_isChief := goodIn_r _ [10, 4, 15, 16, 17, 18, 19, 20, 21, 22, 23, 24, 25, 26, 27, 28, 29, 30, 31, 32, 33, 34, 35, 36, 37, 38, 39, 40, 41, 42, 43, 44, 45] (by decide +kernel) (by decide +kernel)
set_option maxRecDepth 20000 in
theorem gX8_about_X8_isChief : GoodIn wsX8_about (wsV RX8 184 RX8 yX8_isChief wsX8_isChief) := goodIn_app (goodIn_of _ (by decide +kernel)) ggX8_about_X8_isChief
set_option maxRecDepth 20000 in
theorem ggX8_about_X8_bad : GoodIn wsX8_about wsX8_bad := goodIn_r _ [14, 1, 15, 16, 17, 18, 19, 20, 21, 22, 23, 24, 25, 26, 27, 28, 29, 30, 31, 32, 33, 34, 35, 36, 37, 38, 39, 40, 41, 42, 43, 44, 45] (by decide +kernel) (by decide +kernel)
set_option maxRecDepth 20000 in
theorem gX8_about_X8_bad : GoodIn wsX8_about (wsV RX8 78 RX8 yX8_bad wsX8_bad) := goodIn_app (goodIn_of _ (by decide +kernel)) ggX8_about_X8_bad
theorem dX8_about_0 : decode cX8_about 0 = .ok (.aload_n 0, 1) := by decide +kernel
theorem dX8_about_1 : decode cX8_about 1 = .ok (.iconst 0, 1) := by decide +kernel
theorem dX8_about_2 : decode cX8_about 2 = .ok (.putfield 74, 3) := by decide +kernel
theorem dX8_about_5 : decode cX8_about 5 = .ok (.aload_n 0, 1) := by decide +kernel
theorem dX8_about_6 : decode cX8_about 6 = .ok (.aload_n 0, 1) := by decide +kernel
theorem dX8_about_7 : decode cX8_about 7 = .ok (.iload_n 1, 1) := by decide +kernel
theorem dX8_about_8 : decode cX8_about 8 = .ok (.invokevirtual 184, 3) := by decide +kernel
theorem dX8_about_11 : decode cX8_about 11 = .ok (.ifCond .ne 7, 3) := by decide +kernel
theorem dX8_about_14 : decode cX8_about 14 = .ok (.iconst 1, 1) := by decide +kernel
theorem dX8_about_15 : decode cX8_about 15 = .ok (.goto 4, 3) := by decide +kernel
theorem dX8_about_18 : decode cX8_about 18 = .ok (.iconst 0, 1) := by decide +kernel
theorem dX8_about_19 : decode cX8_about 19 = .ok (.iconst 1, 1) := by decide +kernel
theorem dX8_about_20 : decode cX8_about 20 = .ok (.invokevirtual 78, 3) := by decide +kernel
theorem dX8_about_23 : decode cX8_about 23 = .ok (.ifCond .ne 25, 3) := by decide +kernel
theorem dX8_about_26 : decode cX8_about 26 = .ok (.aload_n 0, 1) := by decide +kernel
theorem dX8_about_27 : decode cX8_about 27 = .ok (.iload_n 2, 1) := by decide +kernel
theorem dX8_about_28 : decode cX8_about 28 = .ok (.ifCond .lt 8, 3) := by decide +kernel
theorem dX8_about_31 : decode cX8_about 31 = .ok (.iload_n 2, 1) := by decide +kernel
theorem dX8_about_32 : decode cX8_about 32 = .ok (.iconst 2, 1) := by decide +kernel
theorem dX8_about_33 : decode cX8_about 33 = .ok (.if_icmp .le 7, 3) := by decide +kernel
theorem dX8_about_36 : decode cX8_about 36 = .ok (.iconst 1, 1) := by decide +kernel
theorem dX8_about_37 : decode cX8_about 37 = .ok (.goto 4, 3) := by decide +kernel
theorem dX8_about_40 : decode cX8_about 40 = .ok (.iconst 0, 1) := by decide +kernel
theorem dX8_about_41 : decode cX8_about 41 = .ok (.iconst 2, 1) := by decide +kernel
theorem dX8_about_42 : decode cX8_about 42 = .ok (.invokevirtual 78, 3) := by decide +kernel
theorem dX8_about_45 : decode cX8_about 45 = .ok (.ifCond .eq 5, 3) := by decide +kernel
theorem dX8_about_48 : decode cX8_about 48 = .ok (.iconst 0, 1) := by decide +kernel
theorem dX8_about_49 : decode cX8_about 49 = .ok (.ireturn, 1) := by decide +kernel
theorem dX8_about_50 : decode cX8_about 50 = .ok (.iload_n 2, 1) := by decide +kernel
theorem dX8_about_51 : decode cX8_about 51 = .ok (.iconst 2, 1) := by decide +kernel
theorem dX8_about_52 : decode cX8_about 52 = .ok (.if_icmp .ge 31, 3) := by decide +kernel
theorem dX8_about_55 : decode cX8_about 55 = .ok (.iload_n 2, 1) := by decide +kernel
theorem dX8_about_56 : decode cX8_about 56 = .ok (.ifCond .ne 12, 3) := by decide +kernel
theorem dX8_about_59 : decode cX8_about 59 = .ok (.aload_n 0, 1) := by decide +kernel
theorem dX8_about_60 : decode cX8_about 60 = .ok (.getfield 9, 3) := by decide +kernel
theorem dX8_about_63 : decode cX8_about 63 = .ok (.iload_n 1, 1) := by decide +kernel
theorem dX8_about_64 : decode cX8_about 64 = .ok (.iaload, 1) := by decide +kernel
theorem dX8_about_65 : decode cX8_about 65 = .ok (.goto 17, 3) := by decide +kernel
theorem dX8_about_68 : decode cX8_about 68 = .ok (.aload_n 0, 1) := by decide +kernel
theorem dX8_about_69 : decode cX8_about 69 = .ok (.getfield 17, 3) := by decide +kernel
theorem dX8_about_72 : decode cX8_about 72 = .ok (.iload_n 1, 1) := by decide +kernel
theorem dX8_about_73 : decode cX8_about 73 = .ok (.baload, 1) := by decide +kernel
theorem dX8_about_74 : decode cX8_about 74 = .ok (.ifCond .eq 7, 3) := by decide +kernel
theorem dX8_about_77 : decode cX8_about 77 = .ok (.iconst 0, 1) := by decide +kernel
theorem dX8_about_78 : decode cX8_about 78 = .ok (.goto 4, 3) := by decide +kernel
theorem dX8_about_81 : decode cX8_about 81 = .ok (.iconst 1, 1) := by decide +kernel
theorem dX8_about_82 : decode cX8_about 82 = .ok (.ireturn, 1) := by decide +kernel
theorem dX8_about_83 : decode cX8_about 83 = .ok (.aload_n 0, 1) := by decide +kernel
theorem dX8_about_84 : decode cX8_about 84 = .ok (.getfield 17, 3) := by decide +kernel
theorem dX8_about_87 : decode cX8_about 87 = .ok (.iload_n 1, 1) := by decide +kernel
theorem dX8_about_88 : decode cX8_about 88 = .ok (.baload, 1) := by decide +kernel
theorem dX8_about_89 : decode cX8_about 89 = .ok (.ifCond .eq 5, 3) := by decide +kernel
theorem dX8_about_92 : decode cX8_about 92 = .ok (.iconst (-1), 1) := by decide +kernel
theorem dX8_about_93 : decode cX8_about 93 = .ok (.ireturn, 1) := by decide +kernel
theorem dX8_about_94 : decode cX8_about 94 = .ok (.iconst 0, 1) := by decide +kernel
theorem dX8_about_95 : decode cX8_about 95 = .ok (.istore_n 3, 1) := by decide +kernel
theorem dX8_about_96 : decode cX8_about 96 = .ok (.iconst 0, 1) := by decide +kernel
theorem dX8_about_97 : decode cX8_about 97 = .ok (.istore 4, 2) := by decide +kernel
theorem dX8_about_99 : decode cX8_about 99 = .ok (.iload 4, 2) := by decide +kernel
theorem dX8_about_101 : decode cX8_about 101 = .ok (.aload_n 0, 1) := by decide +kernel
theorem dX8_about_102 : decode cX8_about 102 = .ok (.getfield 82, 3) := by decide +kernel
theorem dX8_about_105 : decode cX8_about 105 = .ok (.if_icmp .ge 67, 3) := by decide +kernel
theorem dX8_about_108 : decode cX8_about 108 = .ok (.iload_n 3, 1) := by decide +kernel
theorem dX8_about_109 : decode cX8_about 109 = .ok (.aload_n 0, 1) := by decide +kernel
theorem dX8_about_110 : decode cX8_about 110 = .ok (.getfield 17, 3) := by decide +kernel
theorem dX8_about_113 : decode cX8_about 113 = .ok (.iload 4, 2) := by decide +kernel
theorem dX8_about_115 : decode cX8_about 115 = .ok (.baload, 1) := by decide +kernel
theorem dX8_about_116 : decode cX8_about 116 = .ok (.ifCond .ne 47, 3) := by decide +kernel
theorem dX8_about_119 : decode cX8_about 119 = .ok (.aload_n 0, 1) := by decide +kernel
theorem dX8_about_120 : decode cX8_about 120 = .ok (.getfield 13, 3) := by decide +kernel
theorem dX8_about_123 : decode cX8_about 123 = .ok (.iload 4, 2) := by decide +kernel
theorem dX8_about_125 : decode cX8_about 125 = .ok (.laload, 1) := by decide +kernel
theorem dX8_about_126 : decode cX8_about 126 = .ok (.aload_n 0, 1) := by decide +kernel
theorem dX8_about_127 : decode cX8_about 127 = .ok (.getfield 13, 3) := by decide +kernel
theorem dX8_about_130 : decode cX8_about 130 = .ok (.iload_n 1, 1) := by decide +kernel
theorem dX8_about_131 : decode cX8_about 131 = .ok (.laload, 1) := by decide +kernel
theorem dX8_about_132 : decode cX8_about 132 = .ok (.lcmp, 1) := by decide +kernel
theorem dX8_about_133 : decode cX8_about 133 = .ok (.ifCond .gt 26, 3) := by decide +kernel
theorem dX8_about_136 : decode cX8_about 136 = .ok (.aload_n 0, 1) := by decide +kernel
theorem dX8_about_137 : decode cX8_about 137 = .ok (.getfield 13, 3) := by decide +kernel
theorem dX8_about_140 : decode cX8_about 140 = .ok (.iload 4, 2) := by decide +kernel
theorem dX8_about_142 : decode cX8_about 142 = .ok (.laload, 1) := by decide +kernel
theorem dX8_about_143 : decode cX8_about 143 = .ok (.aload_n 0, 1) := by decide +kernel
theorem dX8_about_144 : decode cX8_about 144 = .ok (.getfield 13, 3) := by decide +kernel
theorem dX8_about_147 : decode cX8_about 147 = .ok (.iload_n 1, 1) := by decide +kernel
theorem dX8_about_148 : decode cX8_about 148 = .ok (.laload, 1) := by decide +kernel
theorem dX8_about_149 : decode cX8_about 149 = .ok (.lcmp, 1) := by decide +kernel
theorem dX8_about_150 : decode cX8_about 150 = .ok (.ifCond .ne 13, 3) := by decide +kernel
theorem dX8_about_153 : decode cX8_about 153 = .ok (.iload 4, 2) := by decide +kernel
theorem dX8_about_155 : decode cX8_about 155 = .ok (.iload_n 1, 1) := by decide +kernel
theorem dX8_about_156 : decode cX8_about 156 = .ok (.if_icmp .ge 7, 3) := by decide +kernel
theorem dX8_about_159 : decode cX8_about 159 = .ok (.iconst 1, 1) := by decide +kernel
theorem dX8_about_160 : decode cX8_about 160 = .ok (.goto 4, 3) := by decide +kernel
theorem dX8_about_163 : decode cX8_about 163 = .ok (.iconst 0, 1) := by decide +kernel
theorem dX8_about_164 : decode cX8_about 164 = .ok (.iadd, 1) := by decide +kernel
theorem dX8_about_165 : decode cX8_about 165 = .ok (.istore_n 3, 1) := by decide +kernel
theorem dX8_about_166 : decode cX8_about 166 = .ok (.iinc 4 1, 3) := by decide +kernel
theorem dX8_about_169 : decode cX8_about 169 = .ok (.goto (-70), 3) := by decide +kernel
theorem dX8_about_172 : decode cX8_about 172 = .ok (.iload_n 3, 1) := by decide +kernel
theorem dX8_about_173 : decode cX8_about 173 = .ok (.ireturn, 1) := by decide +kernel
set_option maxRecDepth 20000 in
theorem ggX8_fame_X8_isChief : GoodIn wsX8_fame wsX8_isChief := goodIn_r _ [7, 8, 13, 14, 15, 16, 17, 18, 19, 20, 21, 22, 23, 24, 25, 26, 27, 28, 29, 30, 31, 32, 33, 34, 35, 36, 37, 38, 39, 40, 41, 42, 43] (by decide +kernel) (by decide +kernel)
set_option maxRecDepth 20000 in
theorem gX8_fame_X8_isChief : GoodIn wsX8_fame (wsV RX8 184 RX8 yX8_isChief wsX8_isChief) := goodIn_app (goodIn_of _ (by decide +kernel)) ggX8_fame_X8_isChief
set_option maxRecDepth 20000 in
theorem ggX8_fame_X8_bad : GoodIn wsX8_fame wsX8_bad := goodIn_r _ [12, 1, 13, 14, 15, 16, 17, 18, 19, 20, 21, 22, 23, 24, 25, 26, 27, 28, 29, 30, 31, 32, 33, 34, 35, 36, 37, 38, 39, 40, 41, 42, 43] (by decide +kernel) (by decide +kernel)
set_option maxRecDepth 20000 in
theorem gX8_fame_X8_bad : GoodIn wsX8_fame (wsV RX8 78 RX8 yX8_bad wsX8_bad) := goodIn_app (goodIn_of _ (by decide +kernel)) ggX8_fame_X8_bad
theorem dX8_fame_0 : decode cX8_fame 0 = .ok (.aload_n 0, 1) := by decide +kernel
theorem dX8_fame_1 : decode cX8_fame 1 = .ok (.iconst 0, 1) := by decide +kernel
theorem dX8_fame_2 : decode cX8_fame 2 = .ok (.putfield 74, 3) := by decide +kernel
theorem dX8_fame_5 : decode cX8_fame 5 = .ok (.aload_n 0, 1) := by decide +kernel
theorem dX8_fame_6 : decode cX8_fame 6 = .ok (.aload_n 0, 1) := by decide +kernel
theorem dX8_fame_7 : decode cX8_fame 7 = .ok (.iload_n 1, 1) := by decide +kernel
theorem dX8_fame_8 : decode cX8_fame 8 = .ok (.invokevirtual 184, 3) := by decide +kernel
theorem dX8_fame_11 : decode cX8_fame 11 = .ok (.ifCond .ne 7, 3) := by decide +kernel
theorem dX8_fame_14 : decode cX8_fame 14 = .ok (.iconst 1, 1) := by decide +kernel
theorem dX8_fame_15 : decode cX8_fame 15 = .ok (.goto 4, 3) := by decide +kernel
theorem dX8_fame_18 : decode cX8_fame 18 = .ok (.iconst 0, 1) := by decide +kernel
theorem dX8_fame_19 : decode cX8_fame 19 = .ok (.iconst 1, 1) := by decide +kernel
theorem dX8_fame_20 : decode cX8_fame 20 = .ok (.invokevirtual 78, 3) := by decide +kernel
theorem dX8_fame_23 : decode cX8_fame 23 = .ok (.ifCond .eq 7, 3) := by decide +kernel
theorem dX8_fame_26 : decode cX8_fame 26 = .ok (.lconst 0, 1) := by decide +kernel
theorem dX8_fame_27 : decode cX8_fame 27 = .ok (.goto 9, 3) := by decide +kernel
theorem dX8_fame_30 : decode cX8_fame 30 = .ok (.aload_n 0, 1) := by decide +kernel
theorem dX8_fame_31 : decode cX8_fame 31 = .ok (.getfield 13, 3) := by decide +kernel
theorem dX8_fame_34 : decode cX8_fame 34 = .ok (.iload_n 1, 1) := by decide +kernel
theorem dX8_fame_35 : decode cX8_fame 35 = .ok (.laload, 1) := by decide +kernel
theorem dX8_fame_36 : decode cX8_fame 36 = .ok (.lreturn, 1) := by decide +kernel
theorem dX8_ways_0 : decode cX8_ways 0 = .ok (.iconst 0, 1) := by decide +kernel
theorem dX8_ways_1 : decode cX8_ways 1 = .ok (.istore_n 2, 1) := by decide +kernel
theorem dX8_ways_2 : decode cX8_ways 2 = .ok (.iload_n 2, 1) := by decide +kernel
theorem dX8_ways_3 : decode cX8_ways 3 = .ok (.aload_n 0, 1) := by decide +kernel
theorem dX8_ways_4 : decode cX8_ways 4 = .ok (.getfield 82, 3) := by decide +kernel
theorem dX8_ways_7 : decode cX8_ways 7 = .ok (.if_icmp .ge 16, 3) := by decide +kernel
theorem dX8_ways_10 : decode cX8_ways 10 = .ok (.aload_n 0, 1) := by decide +kernel
theorem dX8_ways_11 : decode cX8_ways 11 = .ok (.getfield 68, 3) := by decide +kernel
theorem dX8_ways_14 : decode cX8_ways 14 = .ok (.iload_n 2, 1) := by decide +kernel
theorem dX8_ways_15 : decode cX8_ways 15 = .ok (.iconst 0, 1) := by decide +kernel
theorem dX8_ways_16 : decode cX8_ways 16 = .ok (.bastore, 1) := by decide +kernel
theorem dX8_ways_17 : decode cX8_ways 17 = .ok (.iinc 2 1, 3) := by decide +kernel
theorem dX8_ways_20 : decode cX8_ways 20 = .ok (.goto (-18), 3) := by decide +kernel
theorem dX8_ways_23 : decode cX8_ways 23 = .ok (.aload_n 0, 1) := by decide +kernel
theorem dX8_ways_24 : decode cX8_ways 24 = .ok (.getfield 68, 3) := by decide +kernel
theorem dX8_ways_27 : decode cX8_ways 27 = .ok (.iload_n 1, 1) := by decide +kernel
theorem dX8_ways_28 : decode cX8_ways 28 = .ok (.iconst 1, 1) := by decide +kernel
theorem dX8_ways_29 : decode cX8_ways 29 = .ok (.bastore, 1) := by decide +kernel
theorem dX8_ways_30 : decode cX8_ways 30 = .ok (.aload_n 0, 1) := by decide +kernel
theorem dX8_ways_31 : decode cX8_ways 31 = .ok (.getfield 65, 3) := by decide +kernel
theorem dX8_ways_34 : decode cX8_ways 34 = .ok (.iload_n 1, 1) := by decide +kernel
theorem dX8_ways_35 : decode cX8_ways 35 = .ok (.iconst (-1), 1) := by decide +kernel
theorem dX8_ways_36 : decode cX8_ways 36 = .ok (.iastore, 1) := by decide +kernel
theorem dX8_ways_37 : decode cX8_ways 37 = .ok (.aload_n 0, 1) := by decide +kernel
theorem dX8_ways_38 : decode cX8_ways 38 = .ok (.getfield 71, 3) := by decide +kernel
theorem dX8_ways_41 : decode cX8_ways 41 = .ok (.iconst 0, 1) := by decide +kernel
theorem dX8_ways_42 : decode cX8_ways 42 = .ok (.iload_n 1, 1) := by decide +kernel
theorem dX8_ways_43 : decode cX8_ways 43 = .ok (.iastore, 1) := by decide +kernel
theorem dX8_ways_44 : decode cX8_ways 44 = .ok (.aload_n 0, 1) := by decide +kernel
theorem dX8_ways_45 : decode cX8_ways 45 = .ok (.iconst 1, 1) := by decide +kernel
theorem dX8_ways_46 : decode cX8_ways 46 = .ok (.putfield 206, 3) := by decide +kernel
theorem dX8_ways_49 : decode cX8_ways 49 = .ok (.iconst 0, 1) := by decide +kernel
theorem dX8_ways_50 : decode cX8_ways 50 = .ok (.istore_n 2, 1) := by decide +kernel
theorem dX8_ways_51 : decode cX8_ways 51 = .ok (.iload_n 2, 1) := by decide +kernel
theorem dX8_ways_52 : decode cX8_ways 52 = .ok (.aload_n 0, 1) := by decide +kernel
theorem dX8_ways_53 : decode cX8_ways 53 = .ok (.getfield 206, 3) := by decide +kernel
theorem dX8_ways_56 : decode cX8_ways 56 = .ok (.if_icmp .ge 97, 3) := by decide +kernel
theorem dX8_ways_59 : decode cX8_ways 59 = .ok (.iconst 0, 1) := by decide +kernel
theorem dX8_ways_60 : decode cX8_ways 60 = .ok (.istore_n 3, 1) := by decide +kernel
theorem dX8_ways_61 : decode cX8_ways 61 = .ok (.iload_n 3, 1) := by decide +kernel
theorem dX8_ways_62 : decode cX8_ways 62 = .ok (.aload_n 0, 1) := by decide +kernel
theorem dX8_ways_63 : decode cX8_ways 63 = .ok (.getfield 82, 3) := by decide +kernel
theorem dX8_ways_66 : decode cX8_ways 66 = .ok (.if_icmp .ge 81, 3) := by decide +kernel
theorem dX8_ways_69 : decode cX8_ways 69 = .ok (.aload_n 0, 1) := by decide +kernel
theorem dX8_ways_70 : decode cX8_ways 70 = .ok (.getfield 68, 3) := by decide +kernel
theorem dX8_ways_73 : decode cX8_ways 73 = .ok (.iload_n 3, 1) := by decide +kernel
theorem dX8_ways_74 : decode cX8_ways 74 = .ok (.baload, 1) := by decide +kernel
theorem dX8_ways_75 : decode cX8_ways 75 = .ok (.ifCond .ne 66, 3) := by decide +kernel
theorem dX8_ways_78 : decode cX8_ways 78 = .ok (.aload_n 0, 1) := by decide +kernel
theorem dX8_ways_79 : decode cX8_ways 79 = .ok (.getfield 59, 3) := by decide +kernel
theorem dX8_ways_82 : decode cX8_ways 82 = .ok (.bipush 12, 2) := by decide +kernel
theorem dX8_ways_84 : decode cX8_ways 84 = .ok (.iload_n 3, 1) := by decide +kernel
theorem dX8_ways_85 : decode cX8_ways 85 = .ok (.imul, 1) := by decide +kernel
theorem dX8_ways_86 : decode cX8_ways 86 = .ok (.aload_n 0, 1) := by decide +kernel
theorem dX8_ways_87 : decode cX8_ways 87 = .ok (.getfield 71, 3) := by decide +kernel
theorem dX8_ways_90 : decode cX8_ways 90 = .ok (.iload_n 2, 1) := by decide +kernel
theorem dX8_ways_91 : decode cX8_ways 91 = .ok (.iaload, 1) := by decide +kernel
theorem dX8_ways_92 : decode cX8_ways 92 = .ok (.iadd, 1) := by decide +kernel
theorem dX8_ways_93 : decode cX8_ways 93 = .ok (.laload, 1) := by decide +kernel
theorem dX8_ways_94 : decode cX8_ways 94 = .ok (.lconst 0, 1) := by decide +kernel
theorem dX8_ways_95 : decode cX8_ways 95 = .ok (.lcmp, 1) := by decide +kernel
theorem dX8_ways_96 : decode cX8_ways 96 = .ok (.ifCond .ne 6, 3) := by decide +kernel
theorem dX8_ways_99 : decode cX8_ways 99 = .ok (.goto 42, 3) := by decide +kernel
theorem dX8_ways_102 : decode cX8_ways 102 = .ok (.aload_n 0, 1) := by decide +kernel
theorem dX8_ways_103 : decode cX8_ways 103 = .ok (.getfield 68, 3) := by decide +kernel
theorem dX8_ways_106 : decode cX8_ways 106 = .ok (.iload_n 3, 1) := by decide +kernel
theorem dX8_ways_107 : decode cX8_ways 107 = .ok (.iconst 1, 1) := by decide +kernel
theorem dX8_ways_108 : decode cX8_ways 108 = .ok (.bastore, 1) := by decide +kernel
theorem dX8_ways_109 : decode cX8_ways 109 = .ok (.aload_n 0, 1) := by decide +kernel
theorem dX8_ways_110 : decode cX8_ways 110 = .ok (.getfield 65, 3) := by decide +kernel
theorem dX8_ways_113 : decode cX8_ways 113 = .ok (.iload_n 3, 1) := by decide +kernel
theorem dX8_ways_114 : decode cX8_ways 114 = .ok (.aload_n 0, 1) := by decide +kernel
theorem dX8_ways_115 : decode cX8_ways 115 = .ok (.getfield 71, 3) := by decide +kernel
theorem dX8_ways_118 : decode cX8_ways 118 = .ok (.iload_n 2, 1) := by decide +kernel
theorem dX8_ways_119 : decode cX8_ways 119 = .ok (.iaload, 1) := by decide +kernel
theorem dX8_ways_120 : decode cX8_ways 120 = .ok (.iastore, 1) := by decide +kernel
theorem dX8_ways_121 : decode cX8_ways 121 = .ok (.aload_n 0, 1) := by decide +kernel
theorem dX8_ways_122 : decode cX8_ways 122 = .ok (.getfield 71, 3) := by decide +kernel
theorem dX8_ways_125 : decode cX8_ways 125 = .ok (.aload_n 0, 1) := by decide +kernel
theorem dX8_ways_126 : decode cX8_ways 126 = .ok (.getfield 206, 3) := by decide +kernel
theorem dX8_ways_129 : decode cX8_ways 129 = .ok (.iload_n 3, 1) := by decide +kernel
theorem dX8_ways_130 : decode cX8_ways 130 = .ok (.iastore, 1) := by decide +kernel
theorem dX8_ways_131 : decode cX8_ways 131 = .ok (.aload_n 0, 1) := by decide +kernel
theorem dX8_ways_132 : decode cX8_ways 132 = .ok (.dup, 1) := by decide +kernel
theorem dX8_ways_133 : decode cX8_ways 133 = .ok (.getfield 206, 3) := by decide +kernel
theorem dX8_ways_136 : decode cX8_ways 136 = .ok (.iconst 1, 1) := by decide +kernel
theorem dX8_ways_137 : decode cX8_ways 137 = .ok (.iadd, 1) := by decide +kernel
theorem dX8_ways_138 : decode cX8_ways 138 = .ok (.putfield 206, 3) := by decide +kernel
theorem dX8_ways_141 : decode cX8_ways 141 = .ok (.iinc 3 1, 3) := by decide +kernel
theorem dX8_ways_144 : decode cX8_ways 144 = .ok (.goto (-83), 3) := by decide +kernel
theorem dX8_ways_147 : decode cX8_ways 147 = .ok (.iinc 2 1, 3) := by decide +kernel
theorem dX8_ways_150 : decode cX8_ways 150 = .ok (.goto (-99), 3) := by decide +kernel
theorem dX8_ways_153 : decode cX8_ways 153 = .ok (.return_, 1) := by decide +kernel
set_option maxRecDepth 20000 in
theorem ggX8_gathers_X8_ways : GoodIn wsX8_gathers wsX8_ways := goodIn_r _ [18, 2, 19, 13, 12, 11, 1, 20, 21, 22, 23, 24, 25, 26, 27, 28, 29, 30, 31, 32, 33, 34, 35, 36, 37, 38, 39, 40, 41, 42, 43, 44, 45, 46, 47, 48, 49, 50] (by decide +kernel) (by decide +kernel)
set_option maxRecDepth 20000 in
theorem gX8_gathers_X8_ways : GoodIn wsX8_gathers (wsV RX8 209 RX8 yX8_ways wsX8_ways) := goodIn_app (goodIn_of _ (by decide +kernel)) ggX8_gathers_X8_ways
theorem dX8_gathers_0 : decode cX8_gathers 0 = .ok (.iconst 0, 1) := by decide +kernel
theorem dX8_gathers_1 : decode cX8_gathers 1 = .ok (.istore_n 3, 1) := by decide +kernel
theorem dX8_gathers_2 : decode cX8_gathers 2 = .ok (.iload_n 3, 1) := by decide +kernel
theorem dX8_gathers_3 : decode cX8_gathers 3 = .ok (.sipush 144, 3) := by decide +kernel
theorem dX8_gathers_6 : decode cX8_gathers 6 = .ok (.if_icmp .ge 16, 3) := by decide +kernel
theorem dX8_gathers_9 : decode cX8_gathers 9 = .ok (.aload_n 0, 1) := by decide +kernel
theorem dX8_gathers_10 : decode cX8_gathers 10 = .ok (.getfield 59, 3) := by decide +kernel
theorem dX8_gathers_13 : decode cX8_gathers 13 = .ok (.iload_n 3, 1) := by decide +kernel
theorem dX8_gathers_14 : decode cX8_gathers 14 = .ok (.lconst 0, 1) := by decide +kernel
theorem dX8_gathers_15 : decode cX8_gathers 15 = .ok (.lastore, 1) := by decide +kernel
theorem dX8_gathers_16 : decode cX8_gathers 16 = .ok (.iinc 3 1, 3) := by decide +kernel
theorem dX8_gathers_19 : decode cX8_gathers 19 = .ok (.goto (-17), 3) := by decide +kernel
theorem dX8_gathers_22 : decode cX8_gathers 22 = .ok (.iconst 0, 1) := by decide +kernel
theorem dX8_gathers_23 : decode cX8_gathers 23 = .ok (.istore_n 3, 1) := by decide +kernel
theorem dX8_gathers_24 : decode cX8_gathers 24 = .ok (.iload_n 3, 1) := by decide +kernel
theorem dX8_gathers_25 : decode cX8_gathers 25 = .ok (.aload_n 0, 1) := by decide +kernel
theorem dX8_gathers_26 : decode cX8_gathers 26 = .ok (.getfield 82, 3) := by decide +kernel
theorem dX8_gathers_29 : decode cX8_gathers 29 = .ok (.if_icmp .ge 22, 3) := by decide +kernel
theorem dX8_gathers_32 : decode cX8_gathers 32 = .ok (.aload_n 0, 1) := by decide +kernel
theorem dX8_gathers_33 : decode cX8_gathers 33 = .ok (.getfield 62, 3) := by decide +kernel
theorem dX8_gathers_36 : decode cX8_gathers 36 = .ok (.iload_n 3, 1) := by decide +kernel
theorem dX8_gathers_37 : decode cX8_gathers 37 = .ok (.aload_n 0, 1) := by decide +kernel
theorem dX8_gathers_38 : decode cX8_gathers 38 = .ok (.getfield 9, 3) := by decide +kernel
theorem dX8_gathers_41 : decode cX8_gathers 41 = .ok (.iload_n 3, 1) := by decide +kernel
theorem dX8_gathers_42 : decode cX8_gathers 42 = .ok (.iaload, 1) := by decide +kernel
theorem dX8_gathers_43 : decode cX8_gathers 43 = .ok (.i2l, 1) := by decide +kernel
theorem dX8_gathers_44 : decode cX8_gathers 44 = .ok (.lastore, 1) := by decide +kernel
theorem dX8_gathers_45 : decode cX8_gathers 45 = .ok (.iinc 3 1, 3) := by decide +kernel
theorem dX8_gathers_48 : decode cX8_gathers 48 = .ok (.goto (-24), 3) := by decide +kernel
theorem dX8_gathers_51 : decode cX8_gathers 51 = .ok (.iconst 0, 1) := by decide +kernel
theorem dX8_gathers_52 : decode cX8_gathers 52 = .ok (.istore_n 3, 1) := by decide +kernel
theorem dX8_gathers_53 : decode cX8_gathers 53 = .ok (.iload_n 3, 1) := by decide +kernel
theorem dX8_gathers_54 : decode cX8_gathers 54 = .ok (.aload_n 0, 1) := by decide +kernel
theorem dX8_gathers_55 : decode cX8_gathers 55 = .ok (.getfield 160, 3) := by decide +kernel
theorem dX8_gathers_58 : decode cX8_gathers 58 = .ok (.if_icmp .ge 58, 3) := by decide +kernel
theorem dX8_gathers_61 : decode cX8_gathers 61 = .ok (.aload_n 0, 1) := by decide +kernel
theorem dX8_gathers_62 : decode cX8_gathers 62 = .ok (.getfield 44, 3) := by decide +kernel
theorem dX8_gathers_65 : decode cX8_gathers 65 = .ok (.iload_n 3, 1) := by decide +kernel
theorem dX8_gathers_66 : decode cX8_gathers 66 = .ok (.baload, 1) := by decide +kernel
theorem dX8_gathers_67 : decode cX8_gathers 67 = .ok (.ifCond .ne 13, 3) := by decide +kernel
theorem dX8_gathers_70 : decode cX8_gathers 70 = .ok (.aload_n 0, 1) := by decide +kernel
theorem dX8_gathers_71 : decode cX8_gathers 71 = .ok (.getfield 47, 3) := by decide +kernel
theorem dX8_gathers_74 : decode cX8_gathers 74 = .ok (.iload_n 3, 1) := by decide +kernel
theorem dX8_gathers_75 : decode cX8_gathers 75 = .ok (.iaload, 1) := by decide +kernel
theorem dX8_gathers_76 : decode cX8_gathers 76 = .ok (.iload_n 2, 1) := by decide +kernel
theorem dX8_gathers_77 : decode cX8_gathers 77 = .ok (.if_icmp .gt 33, 3) := by decide +kernel
theorem dX8_gathers_80 : decode cX8_gathers 80 = .ok (.aload_n 0, 1) := by decide +kernel
theorem dX8_gathers_81 : decode cX8_gathers 81 = .ok (.getfield 59, 3) := by decide +kernel
theorem dX8_gathers_84 : decode cX8_gathers 84 = .ok (.bipush 12, 2) := by decide +kernel
theorem dX8_gathers_86 : decode cX8_gathers 86 = .ok (.aload_n 0, 1) := by decide +kernel
theorem dX8_gathers_87 : decode cX8_gathers 87 = .ok (.getfield 35, 3) := by decide +kernel
theorem dX8_gathers_90 : decode cX8_gathers 90 = .ok (.iload_n 3, 1) := by decide +kernel
theorem dX8_gathers_91 : decode cX8_gathers 91 = .ok (.iaload, 1) := by decide +kernel
theorem dX8_gathers_92 : decode cX8_gathers 92 = .ok (.imul, 1) := by decide +kernel
theorem dX8_gathers_93 : decode cX8_gathers 93 = .ok (.aload_n 0, 1) := by decide +kernel
theorem dX8_gathers_94 : decode cX8_gathers 94 = .ok (.getfield 38, 3) := by decide +kernel
theorem dX8_gathers_97 : decode cX8_gathers 97 = .ok (.iload_n 3, 1) := by decide +kernel
theorem dX8_gathers_98 : decode cX8_gathers 98 = .ok (.iaload, 1) := by decide +kernel
theorem dX8_gathers_99 : decode cX8_gathers 99 = .ok (.iadd, 1) := by decide +kernel
theorem dX8_gathers_100 : decode cX8_gathers 100 = .ok (.dup2, 1) := by decide +kernel
theorem dX8_gathers_101 : decode cX8_gathers 101 = .ok (.laload, 1) := by decide +kernel
theorem dX8_gathers_102 : decode cX8_gathers 102 = .ok (.aload_n 0, 1) := by decide +kernel
theorem dX8_gathers_103 : decode cX8_gathers 103 = .ok (.getfield 41, 3) := by decide +kernel
theorem dX8_gathers_106 : decode cX8_gathers 106 = .ok (.iload_n 3, 1) := by decide +kernel
theorem dX8_gathers_107 : decode cX8_gathers 107 = .ok (.laload, 1) := by decide +kernel
theorem dX8_gathers_108 : decode cX8_gathers 108 = .ok (.ladd, 1) := by decide +kernel
theorem dX8_gathers_109 : decode cX8_gathers 109 = .ok (.lastore, 1) := by decide +kernel
theorem dX8_gathers_110 : decode cX8_gathers 110 = .ok (.iinc 3 1, 3) := by decide +kernel
theorem dX8_gathers_113 : decode cX8_gathers 113 = .ok (.goto (-60), 3) := by decide +kernel
theorem dX8_gathers_116 : decode cX8_gathers 116 = .ok (.aload_n 0, 1) := by decide +kernel
theorem dX8_gathers_117 : decode cX8_gathers 117 = .ok (.getfield 62, 3) := by decide +kernel
theorem dX8_gathers_120 : decode cX8_gathers 120 = .ok (.iload_n 1, 1) := by decide +kernel
theorem dX8_gathers_121 : decode cX8_gathers 121 = .ok (.laload, 1) := by decide +kernel
theorem dX8_gathers_122 : decode cX8_gathers 122 = .ok (.lstore_n 3, 1) := by decide +kernel
theorem dX8_gathers_123 : decode cX8_gathers 123 = .ok (.aload_n 0, 1) := by decide +kernel
theorem dX8_gathers_124 : decode cX8_gathers 124 = .ok (.getfield 62, 3) := by decide +kernel
theorem dX8_gathers_127 : decode cX8_gathers 127 = .ok (.iload_n 1, 1) := by decide +kernel
theorem dX8_gathers_128 : decode cX8_gathers 128 = .ok (.lconst 0, 1) := by decide +kernel
theorem dX8_gathers_129 : decode cX8_gathers 129 = .ok (.lastore, 1) := by decide +kernel
theorem dX8_gathers_130 : decode cX8_gathers 130 = .ok (.iconst 1, 1) := by decide +kernel
theorem dX8_gathers_131 : decode cX8_gathers 131 = .ok (.istore 5, 2) := by decide +kernel
theorem dX8_gathers_133 : decode cX8_gathers 133 = .ok (.iload 5, 2) := by decide +kernel
theorem dX8_gathers_135 : decode cX8_gathers 135 = .ok (.ifCond .eq 244, 3) := by decide +kernel
theorem dX8_gathers_138 : decode cX8_gathers 138 = .ok (.aload_n 0, 1) := by decide +kernel
theorem dX8_gathers_139 : decode cX8_gathers 139 = .ok (.iload_n 1, 1) := by decide +kernel
theorem dX8_gathers_140 : decode cX8_gathers 140 = .ok (.invokevirtual 209, 3) := by decide +kernel
theorem dX8_gathers_143 : decode cX8_gathers 143 = .ok (.iconst 0, 1) := by decide +kernel
theorem dX8_gathers_144 : decode cX8_gathers 144 = .ok (.istore 6, 2) := by decide +kernel
theorem dX8_gathers_146 : decode cX8_gathers 146 = .ok (.iload 6, 2) := by decide +kernel
theorem dX8_gathers_148 : decode cX8_gathers 148 = .ok (.aload_n 0, 1) := by decide +kernel
theorem dX8_gathers_149 : decode cX8_gathers 149 = .ok (.getfield 206, 3) := by decide +kernel
theorem dX8_gathers_152 : decode cX8_gathers 152 = .ok (.if_icmp .ge 26, 3) := by decide +kernel
theorem dX8_gathers_155 : decode cX8_gathers 155 = .ok (.aload_n 0, 1) := by decide +kernel
theorem dX8_gathers_156 : decode cX8_gathers 156 = .ok (.getfield 62, 3) := by decide +kernel
theorem dX8_gathers_159 : decode cX8_gathers 159 = .ok (.aload_n 0, 1) := by decide +kernel
theorem dX8_gathers_160 : decode cX8_gathers 160 = .ok (.getfield 71, 3) := by decide +kernel
theorem dX8_gathers_163 : decode cX8_gathers 163 = .ok (.iload 6, 2) := by decide +kernel
theorem dX8_gathers_165 : decode cX8_gathers 165 = .ok (.iaload, 1) := by decide +kernel
theorem dX8_gathers_166 : decode cX8_gathers 166 = .ok (.laload, 1) := by decide +kernel
theorem dX8_gathers_167 : decode cX8_gathers 167 = .ok (.lconst 0, 1) := by decide +kernel
theorem dX8_gathers_168 : decode cX8_gathers 168 = .ok (.lcmp, 1) := by decide +kernel
theorem dX8_gathers_169 : decode cX8_gathers 169 = .ok (.ifCond .ne 9, 3) := by decide +kernel
theorem dX8_gathers_172 : decode cX8_gathers 172 = .ok (.iinc 6 1, 3) := by decide +kernel
theorem dX8_gathers_175 : decode cX8_gathers 175 = .ok (.goto (-29), 3) := by decide +kernel
theorem dX8_gathers_178 : decode cX8_gathers 178 = .ok (.iload 6, 2) := by decide +kernel
theorem dX8_gathers_180 : decode cX8_gathers 180 = .ok (.aload_n 0, 1) := by decide +kernel
theorem dX8_gathers_181 : decode cX8_gathers 181 = .ok (.getfield 206, 3) := by decide +kernel
theorem dX8_gathers_184 : decode cX8_gathers 184 = .ok (.if_icmp .ge 7, 3) := by decide +kernel
theorem dX8_gathers_187 : decode cX8_gathers 187 = .ok (.iconst 1, 1) := by decide +kernel
theorem dX8_gathers_188 : decode cX8_gathers 188 = .ok (.goto 4, 3) := by decide +kernel
theorem dX8_gathers_191 : decode cX8_gathers 191 = .ok (.iconst 0, 1) := by decide +kernel
theorem dX8_gathers_192 : decode cX8_gathers 192 = .ok (.istore 5, 2) := by decide +kernel
theorem dX8_gathers_194 : decode cX8_gathers 194 = .ok (.iload 5, 2) := by decide +kernel
theorem dX8_gathers_196 : decode cX8_gathers 196 = .ok (.ifCond .ne 6, 3) := by decide +kernel
theorem dX8_gathers_199 : decode cX8_gathers 199 = .ok (.goto (-66), 3) := by decide +kernel
theorem dX8_gathers_202 : decode cX8_gathers 202 = .ok (.aload_n 0, 1) := by decide +kernel
theorem dX8_gathers_203 : decode cX8_gathers 203 = .ok (.getfield 71, 3) := by decide +kernel
theorem dX8_gathers_206 : decode cX8_gathers 206 = .ok (.iload 6, 2) := by decide +kernel
theorem dX8_gathers_208 : decode cX8_gathers 208 = .ok (.iaload, 1) := by decide +kernel
theorem dX8_gathers_209 : decode cX8_gathers 209 = .ok (.istore 7, 2) := by decide +kernel
theorem dX8_gathers_211 : decode cX8_gathers 211 = .ok (.aload_n 0, 1) := by decide +kernel
theorem dX8_gathers_212 : decode cX8_gathers 212 = .ok (.getfield 62, 3) := by decide +kernel
theorem dX8_gathers_215 : decode cX8_gathers 215 = .ok (.iload 7, 2) := by decide +kernel
theorem dX8_gathers_217 : decode cX8_gathers 217 = .ok (.laload, 1) := by decide +kernel
theorem dX8_gathers_218 : decode cX8_gathers 218 = .ok (.lstore 8, 2) := by decide +kernel
theorem dX8_gathers_220 : decode cX8_gathers 220 = .ok (.iload 7, 2) := by decide +kernel
theorem dX8_gathers_222 : decode cX8_gathers 222 = .ok (.istore 10, 2) := by decide +kernel
theorem dX8_gathers_224 : decode cX8_gathers 224 = .ok (.iload 10, 2) := by decide +kernel
theorem dX8_gathers_226 : decode cX8_gathers 226 = .ok (.iload_n 1, 1) := by decide +kernel
theorem dX8_gathers_227 : decode cX8_gathers 227 = .ok (.if_icmp .eq 64, 3) := by decide +kernel
theorem dX8_gathers_230 : decode cX8_gathers 230 = .ok (.aload_n 0, 1) := by decide +kernel
theorem dX8_gathers_231 : decode cX8_gathers 231 = .ok (.getfield 59, 3) := by decide +kernel
theorem dX8_gathers_234 : decode cX8_gathers 234 = .ok (.bipush 12, 2) := by decide +kernel
theorem dX8_gathers_236 : decode cX8_gathers 236 = .ok (.iload 10, 2) := by decide +kernel
theorem dX8_gathers_238 : decode cX8_gathers 238 = .ok (.imul, 1) := by decide +kernel
theorem dX8_gathers_239 : decode cX8_gathers 239 = .ok (.aload_n 0, 1) := by decide +kernel
theorem dX8_gathers_240 : decode cX8_gathers 240 = .ok (.getfield 65, 3) := by decide +kernel
theorem dX8_gathers_243 : decode cX8_gathers 243 = .ok (.iload 10, 2) := by decide +kernel
theorem dX8_gathers_245 : decode cX8_gathers 245 = .ok (.iaload, 1) := by decide +kernel
theorem dX8_gathers_246 : decode cX8_gathers 246 = .ok (.iadd, 1) := by decide +kernel
theorem dX8_gathers_247 : decode cX8_gathers 247 = .ok (.laload, 1) := by decide +kernel
theorem dX8_gathers_248 : decode cX8_gathers 248 = .ok (.lload 8, 2) := by decide +kernel
theorem dX8_gathers_250 : decode cX8_gathers 250 = .ok (.lcmp, 1) := by decide +kernel
theorem dX8_gathers_251 : decode cX8_gathers 251 = .ok (.ifCond .ge 24, 3) := by decide +kernel
theorem dX8_gathers_254 : decode cX8_gathers 254 = .ok (.aload_n 0, 1) := by decide +kernel
theorem dX8_gathers_255 : decode cX8_gathers 255 = .ok (.getfield 59, 3) := by decide +kernel
theorem dX8_gathers_258 : decode cX8_gathers 258 = .ok (.bipush 12, 2) := by decide +kernel
theorem dX8_gathers_260 : decode cX8_gathers 260 = .ok (.iload 10, 2) := by decide +kernel
theorem dX8_gathers_262 : decode cX8_gathers 262 = .ok (.imul, 1) := by decide +kernel
theorem dX8_gathers_263 : decode cX8_gathers 263 = .ok (.aload_n 0, 1) := by decide +kernel
theorem dX8_gathers_264 : decode cX8_gathers 264 = .ok (.getfield 65, 3) := by decide +kernel
theorem dX8_gathers_267 : decode cX8_gathers 267 = .ok (.iload 10, 2) := by decide +kernel
theorem dX8_gathers_269 : decode cX8_gathers 269 = .ok (.iaload, 1) := by decide +kernel
theorem dX8_gathers_270 : decode cX8_gathers 270 = .ok (.iadd, 1) := by decide +kernel
theorem dX8_gathers_271 : decode cX8_gathers 271 = .ok (.laload, 1) := by decide +kernel
theorem dX8_gathers_272 : decode cX8_gathers 272 = .ok (.goto 5, 3) := by decide +kernel
theorem dX8_gathers_275 : decode cX8_gathers 275 = .ok (.lload 8, 2) := by decide +kernel
theorem dX8_gathers_277 : decode cX8_gathers 277 = .ok (.lstore 8, 2) := by decide +kernel
theorem dX8_gathers_279 : decode cX8_gathers 279 = .ok (.aload_n 0, 1) := by decide +kernel
theorem dX8_gathers_280 : decode cX8_gathers 280 = .ok (.getfield 65, 3) := by decide +kernel
theorem dX8_gathers_283 : decode cX8_gathers 283 = .ok (.iload 10, 2) := by decide +kernel
theorem dX8_gathers_285 : decode cX8_gathers 285 = .ok (.iaload, 1) := by decide +kernel
theorem dX8_gathers_286 : decode cX8_gathers 286 = .ok (.istore 10, 2) := by decide +kernel
theorem dX8_gathers_288 : decode cX8_gathers 288 = .ok (.goto (-64), 3) := by decide +kernel
theorem dX8_gathers_291 : decode cX8_gathers 291 = .ok (.iload 7, 2) := by decide +kernel
theorem dX8_gathers_293 : decode cX8_gathers 293 = .ok (.istore 10, 2) := by decide +kernel
theorem dX8_gathers_295 : decode cX8_gathers 295 = .ok (.iload 10, 2) := by decide +kernel
theorem dX8_gathers_297 : decode cX8_gathers 297 = .ok (.iload_n 1, 1) := by decide +kernel
theorem dX8_gathers_298 : decode cX8_gathers 298 = .ok (.if_icmp .eq 61, 3) := by decide +kernel
theorem dX8_gathers_301 : decode cX8_gathers 301 = .ok (.aload_n 0, 1) := by decide +kernel
theorem dX8_gathers_302 : decode cX8_gathers 302 = .ok (.getfield 59, 3) := by decide +kernel
theorem dX8_gathers_305 : decode cX8_gathers 305 = .ok (.bipush 12, 2) := by decide +kernel
theorem dX8_gathers_307 : decode cX8_gathers 307 = .ok (.iload 10, 2) := by decide +kernel
theorem dX8_gathers_309 : decode cX8_gathers 309 = .ok (.imul, 1) := by decide +kernel
theorem dX8_gathers_310 : decode cX8_gathers 310 = .ok (.aload_n 0, 1) := by decide +kernel
theorem dX8_gathers_311 : decode cX8_gathers 311 = .ok (.getfield 65, 3) := by decide +kernel
theorem dX8_gathers_314 : decode cX8_gathers 314 = .ok (.iload 10, 2) := by decide +kernel
theorem dX8_gathers_316 : decode cX8_gathers 316 = .ok (.iaload, 1) := by decide +kernel
theorem dX8_gathers_317 : decode cX8_gathers 317 = .ok (.iadd, 1) := by decide +kernel
theorem dX8_gathers_318 : decode cX8_gathers 318 = .ok (.dup2, 1) := by decide +kernel
theorem dX8_gathers_319 : decode cX8_gathers 319 = .ok (.laload, 1) := by decide +kernel
theorem dX8_gathers_320 : decode cX8_gathers 320 = .ok (.lload 8, 2) := by decide +kernel
theorem dX8_gathers_322 : decode cX8_gathers 322 = .ok (.lsub, 1) := by decide +kernel
theorem dX8_gathers_323 : decode cX8_gathers 323 = .ok (.lastore, 1) := by decide +kernel
theorem dX8_gathers_324 : decode cX8_gathers 324 = .ok (.aload_n 0, 1) := by decide +kernel
theorem dX8_gathers_325 : decode cX8_gathers 325 = .ok (.getfield 59, 3) := by decide +kernel
theorem dX8_gathers_328 : decode cX8_gathers 328 = .ok (.bipush 12, 2) := by decide +kernel
theorem dX8_gathers_330 : decode cX8_gathers 330 = .ok (.aload_n 0, 1) := by decide +kernel
theorem dX8_gathers_331 : decode cX8_gathers 331 = .ok (.getfield 65, 3) := by decide +kernel
theorem dX8_gathers_334 : decode cX8_gathers 334 = .ok (.iload 10, 2) := by decide +kernel
theorem dX8_gathers_336 : decode cX8_gathers 336 = .ok (.iaload, 1) := by decide +kernel
theorem dX8_gathers_337 : decode cX8_gathers 337 = .ok (.imul, 1) := by decide +kernel
theorem dX8_gathers_338 : decode cX8_gathers 338 = .ok (.iload 10, 2) := by decide +kernel
theorem dX8_gathers_340 : decode cX8_gathers 340 = .ok (.iadd, 1) := by decide +kernel
theorem dX8_gathers_341 : decode cX8_gathers 341 = .ok (.dup2, 1) := by decide +kernel
theorem dX8_gathers_342 : decode cX8_gathers 342 = .ok (.laload, 1) := by decide +kernel
theorem dX8_gathers_343 : decode cX8_gathers 343 = .ok (.lload 8, 2) := by decide +kernel
theorem dX8_gathers_345 : decode cX8_gathers 345 = .ok (.ladd, 1) := by decide +kernel
theorem dX8_gathers_346 : decode cX8_gathers 346 = .ok (.lastore, 1) := by decide +kernel
theorem dX8_gathers_347 : decode cX8_gathers 347 = .ok (.aload_n 0, 1) := by decide +kernel
theorem dX8_gathers_348 : decode cX8_gathers 348 = .ok (.getfield 65, 3) := by decide +kernel
theorem dX8_gathers_351 : decode cX8_gathers 351 = .ok (.iload 10, 2) := by decide +kernel
theorem dX8_gathers_353 : decode cX8_gathers 353 = .ok (.iaload, 1) := by decide +kernel
theorem dX8_gathers_354 : decode cX8_gathers 354 = .ok (.istore 10, 2) := by decide +kernel
theorem dX8_gathers_356 : decode cX8_gathers 356 = .ok (.goto (-61), 3) := by decide +kernel
theorem dX8_gathers_359 : decode cX8_gathers 359 = .ok (.aload_n 0, 1) := by decide +kernel
theorem dX8_gathers_360 : decode cX8_gathers 360 = .ok (.getfield 62, 3) := by decide +kernel
theorem dX8_gathers_363 : decode cX8_gathers 363 = .ok (.iload 7, 2) := by decide +kernel
theorem dX8_gathers_365 : decode cX8_gathers 365 = .ok (.dup2, 1) := by decide +kernel
theorem dX8_gathers_366 : decode cX8_gathers 366 = .ok (.laload, 1) := by decide +kernel
theorem dX8_gathers_367 : decode cX8_gathers 367 = .ok (.lload 8, 2) := by decide +kernel
theorem dX8_gathers_369 : decode cX8_gathers 369 = .ok (.lsub, 1) := by decide +kernel
theorem dX8_gathers_370 : decode cX8_gathers 370 = .ok (.lastore, 1) := by decide +kernel
theorem dX8_gathers_371 : decode cX8_gathers 371 = .ok (.lload_n 3, 1) := by decide +kernel
theorem dX8_gathers_372 : decode cX8_gathers 372 = .ok (.lload 8, 2) := by decide +kernel
theorem dX8_gathers_374 : decode cX8_gathers 374 = .ok (.ladd, 1) := by decide +kernel
theorem dX8_gathers_375 : decode cX8_gathers 375 = .ok (.lstore_n 3, 1) := by decide +kernel
theorem dX8_gathers_376 : decode cX8_gathers 376 = .ok (.goto (-243), 3) := by decide +kernel
theorem dX8_gathers_379 : decode cX8_gathers 379 = .ok (.lload_n 3, 1) := by decide +kernel
theorem dX8_gathers_380 : decode cX8_gathers 380 = .ok (.lreturn, 1) := by decide +kernel
set_option maxRecDepth 20000 in
theorem ggX8_gather_X8_isChief : GoodIn wsX8_gather wsX8_isChief := goodIn_r _ [8, 9, 35, 36, 37, 38, 39, 40, 41, 42, 43, 44, 45, 46, 47, 48, 49, 50, 51, 52, 53, 54, 55, 56, 57, 58, 59, 60, 61, 62, 63, 64, 65] (by decide +kernel) (by decide +kernel)
set_option maxRecDepth 20000 in
theorem gX8_gather_X8_isChief : GoodIn wsX8_gather (wsV RX8 184 RX8 yX8_isChief wsX8_isChief) := goodIn_app (goodIn_of _ (by decide +kernel)) ggX8_gather_X8_isChief
set_option maxRecDepth 20000 in
theorem ggX8_gather_X8_bad : GoodIn wsX8_gather wsX8_bad := goodIn_r _ [13, 1, 35, 36, 37, 38, 39, 40, 41, 42, 43, 44, 45, 46, 47, 48, 49, 50, 51, 52, 53, 54, 55, 56, 57, 58, 59, 60, 61, 62, 63, 64, 65] (by decide +kernel) (by decide +kernel)
set_option maxRecDepth 20000 in
theorem gX8_gather_X8_bad : GoodIn wsX8_gather (wsV RX8 78 RX8 yX8_bad wsX8_bad) := goodIn_app (goodIn_of _ (by decide +kernel)) ggX8_gather_X8_bad
set_option maxRecDepth 20000 in
theorem ggX8_gather_X8_gathers : GoodIn wsX8_gather wsX8_gathers := goodIn_r _ [17, 18, 9, 19, 20, 21, 22, 23, 24, 25, 26, 27, 28, 29, 30, 31, 32, 7, 33, 34, 35, 36, 37, 38, 39, 40, 41, 42, 43, 44, 45, 46, 47, 48, 49, 50, 51, 52, 53, 54, 55, 56, 57, 58, 59, 60, 61, 62, 63, 64, 65] (by decide +kernel) (by decide +kernel)
set_option maxRecDepth 20000 in
theorem gX8_gather_X8_gathers : GoodIn wsX8_gather (wsV RX8 214 RX8 yX8_gathers wsX8_gathers) := goodIn_app (goodIn_of _ (by decide +kernel)) ggX8_gather_X8_gathers
theorem dX8_gather_0 : decode cX8_gather 0 = .ok (.aload_n 0, 1) := by decide +kernel
theorem dX8_gather_1 : decode cX8_gather 1 = .ok (.iconst 0, 1) := by decide +kernel
theorem dX8_gather_2 : decode cX8_gather 2 = .ok (.putfield 74, 3) := by decide +kernel
theorem dX8_gather_5 : decode cX8_gather 5 = .ok (.aload_n 0, 1) := by decide +kernel
theorem dX8_gather_6 : decode cX8_gather 6 = .ok (.aload_n 0, 1) := by decide +kernel
theorem dX8_gather_7 : decode cX8_gather 7 = .ok (.iload_n 1, 1) := by decide +kernel
theorem dX8_gather_8 : decode cX8_gather 8 = .ok (.invokevirtual 184, 3) := by decide +kernel
theorem dX8_gather_11 : decode cX8_gather 11 = .ok (.ifCond .ne 7, 3) := by decide +kernel
theorem dX8_gather_14 : decode cX8_gather 14 = .ok (.iconst 1, 1) := by decide +kernel
theorem dX8_gather_15 : decode cX8_gather 15 = .ok (.goto 4, 3) := by decide +kernel
theorem dX8_gather_18 : decode cX8_gather 18 = .ok (.iconst 0, 1) := by decide +kernel
theorem dX8_gather_19 : decode cX8_gather 19 = .ok (.iconst 1, 1) := by decide +kernel
theorem dX8_gather_20 : decode cX8_gather 20 = .ok (.invokevirtual 78, 3) := by decide +kernel
theorem dX8_gather_23 : decode cX8_gather 23 = .ok (.ifCond .eq 5, 3) := by decide +kernel
theorem dX8_gather_26 : decode cX8_gather 26 = .ok (.lconst 0, 1) := by decide +kernel
theorem dX8_gather_27 : decode cX8_gather 27 = .ok (.lreturn, 1) := by decide +kernel
theorem dX8_gather_28 : decode cX8_gather 28 = .ok (.aload_n 0, 1) := by decide +kernel
theorem dX8_gather_29 : decode cX8_gather 29 = .ok (.getfield 17, 3) := by decide +kernel
theorem dX8_gather_32 : decode cX8_gather 32 = .ok (.iload_n 1, 1) := by decide +kernel
theorem dX8_gather_33 : decode cX8_gather 33 = .ok (.baload, 1) := by decide +kernel
theorem dX8_gather_34 : decode cX8_gather 34 = .ok (.ifCond .eq 9, 3) := by decide +kernel
theorem dX8_gather_37 : decode cX8_gather 37 = .ok (.ldc2_w 212, 3) := by decide +kernel
theorem dX8_gather_40 : decode cX8_gather 40 = .ok (.goto 9, 3) := by decide +kernel
theorem dX8_gather_43 : decode cX8_gather 43 = .ok (.aload_n 0, 1) := by decide +kernel
theorem dX8_gather_44 : decode cX8_gather 44 = .ok (.iload_n 1, 1) := by decide +kernel
theorem dX8_gather_45 : decode cX8_gather 45 = .ok (.iload_n 2, 1) := by decide +kernel
theorem dX8_gather_46 : decode cX8_gather 46 = .ok (.invokevirtual 214, 3) := by decide +kernel
theorem dX8_gather_49 : decode cX8_gather 49 = .ok (.lreturn, 1) := by decide +kernel
set_option maxRecDepth 20000 in
theorem ggX8_hold_X8_isChief : GoodIn wsX8_hold wsX8_isChief := goodIn_r _ [9, 3, 34, 35, 36, 37, 38, 39, 40, 41, 42, 43, 44, 45, 46, 47, 48, 49, 50, 51, 52, 53, 54, 55, 56, 57, 58, 59, 60, 61, 62, 63, 64] (by decide +kernel) (by decide +kernel)
set_option maxRecDepth 20000 in
theorem gX8_hold_X8_isChief : GoodIn wsX8_hold (wsV RX8 184 RX8 yX8_isChief wsX8_isChief) := goodIn_app (goodIn_of _ (by decide +kernel)) ggX8_hold_X8_isChief
set_option maxRecDepth 20000 in
theorem ggX8_hold_X8_bad : GoodIn wsX8_hold wsX8_bad := goodIn_r _ [13, 1, 34, 35, 36, 37, 38, 39, 40, 41, 42, 43, 44, 45, 46, 47, 48, 49, 50, 51, 52, 53, 54, 55, 56, 57, 58, 59, 60, 61, 62, 63, 64] (by decide +kernel) (by decide +kernel)
set_option maxRecDepth 20000 in
theorem gX8_hold_X8_bad : GoodIn wsX8_hold (wsV RX8 78 RX8 yX8_bad wsX8_bad) := goodIn_app (goodIn_of _ (by decide +kernel)) ggX8_hold_X8_bad
set_option maxRecDepth 20000 in
theorem ggX8_hold_X8_gathers : GoodIn wsX8_hold wsX8_gathers := goodIn_r _ [17, 18, 3, 19, 20, 21, 22, 23, 24, 25, 26, 27, 28, 29, 30, 31, 32, 8, 33, 4, 34, 35, 36, 37, 38, 39, 40, 41, 42, 43, 44, 45, 46, 47, 48, 49, 50, 51, 52, 53, 54, 55, 56, 57, 58, 59, 60, 61, 62, 63, 64] (by decide +kernel) (by decide +kernel)
set_option maxRecDepth 20000 in
theorem gX8_hold_X8_gathers : GoodIn wsX8_hold (wsV RX8 214 RX8 yX8_gathers wsX8_gathers) := goodIn_app (goodIn_of _ (by decide +kernel)) ggX8_hold_X8_gathers
theorem dX8_hold_0 : decode cX8_hold 0 = .ok (.aload_n 0, 1) := by decide +kernel
theorem dX8_hold_1 : decode cX8_hold 1 = .ok (.iconst 0, 1) := by decide +kernel
theorem dX8_hold_2 : decode cX8_hold 2 = .ok (.putfield 74, 3) := by decide +kernel
theorem dX8_hold_5 : decode cX8_hold 5 = .ok (.aload_n 0, 1) := by decide +kernel
theorem dX8_hold_6 : decode cX8_hold 6 = .ok (.aload_n 0, 1) := by decide +kernel
theorem dX8_hold_7 : decode cX8_hold 7 = .ok (.iload_n 1, 1) := by decide +kernel
theorem dX8_hold_8 : decode cX8_hold 8 = .ok (.invokevirtual 184, 3) := by decide +kernel
theorem dX8_hold_11 : decode cX8_hold 11 = .ok (.ifCond .ne 7, 3) := by decide +kernel
theorem dX8_hold_14 : decode cX8_hold 14 = .ok (.iconst 1, 1) := by decide +kernel
theorem dX8_hold_15 : decode cX8_hold 15 = .ok (.goto 4, 3) := by decide +kernel
theorem dX8_hold_18 : decode cX8_hold 18 = .ok (.iconst 0, 1) := by decide +kernel
theorem dX8_hold_19 : decode cX8_hold 19 = .ok (.iconst 1, 1) := by decide +kernel
theorem dX8_hold_20 : decode cX8_hold 20 = .ok (.invokevirtual 78, 3) := by decide +kernel
theorem dX8_hold_23 : decode cX8_hold 23 = .ok (.ifCond .eq 5, 3) := by decide +kernel
theorem dX8_hold_26 : decode cX8_hold 26 = .ok (.iconst 0, 1) := by decide +kernel
theorem dX8_hold_27 : decode cX8_hold 27 = .ok (.ireturn, 1) := by decide +kernel
theorem dX8_hold_28 : decode cX8_hold 28 = .ok (.aload_n 0, 1) := by decide +kernel
theorem dX8_hold_29 : decode cX8_hold 29 = .ok (.getfield 17, 3) := by decide +kernel
theorem dX8_hold_32 : decode cX8_hold 32 = .ok (.iload_n 1, 1) := by decide +kernel
theorem dX8_hold_33 : decode cX8_hold 33 = .ok (.baload, 1) := by decide +kernel
theorem dX8_hold_34 : decode cX8_hold 34 = .ok (.ifCond .eq 5, 3) := by decide +kernel
theorem dX8_hold_37 : decode cX8_hold 37 = .ok (.iconst (-1), 1) := by decide +kernel
theorem dX8_hold_38 : decode cX8_hold 38 = .ok (.ireturn, 1) := by decide +kernel
theorem dX8_hold_39 : decode cX8_hold 39 = .ok (.aload_n 0, 1) := by decide +kernel
theorem dX8_hold_40 : decode cX8_hold 40 = .ok (.iload_n 1, 1) := by decide +kernel
theorem dX8_hold_41 : decode cX8_hold 41 = .ok (.iload_n 2, 1) := by decide +kernel
theorem dX8_hold_42 : decode cX8_hold 42 = .ok (.invokevirtual 214, 3) := by decide +kernel
theorem dX8_hold_45 : decode cX8_hold 45 = .ok (.lstore_n 3, 1) := by decide +kernel
theorem dX8_hold_46 : decode cX8_hold 46 = .ok (.iconst 0, 1) := by decide +kernel
theorem dX8_hold_47 : decode cX8_hold 47 = .ok (.istore 5, 2) := by decide +kernel
theorem dX8_hold_49 : decode cX8_hold 49 = .ok (.iconst 0, 1) := by decide +kernel
theorem dX8_hold_50 : decode cX8_hold 50 = .ok (.istore 6, 2) := by decide +kernel
theorem dX8_hold_52 : decode cX8_hold 52 = .ok (.iload 6, 2) := by decide +kernel
theorem dX8_hold_54 : decode cX8_hold 54 = .ok (.aload_n 0, 1) := by decide +kernel
theorem dX8_hold_55 : decode cX8_hold 55 = .ok (.getfield 82, 3) := by decide +kernel
theorem dX8_hold_58 : decode cX8_hold 58 = .ok (.if_icmp .ge 38, 3) := by decide +kernel
theorem dX8_hold_61 : decode cX8_hold 61 = .ok (.iload 5, 2) := by decide +kernel
theorem dX8_hold_63 : decode cX8_hold 63 = .ok (.aload_n 0, 1) := by decide +kernel
theorem dX8_hold_64 : decode cX8_hold 64 = .ok (.getfield 68, 3) := by decide +kernel
theorem dX8_hold_67 : decode cX8_hold 67 = .ok (.iload 6, 2) := by decide +kernel
theorem dX8_hold_69 : decode cX8_hold 69 = .ok (.baload, 1) := by decide +kernel
theorem dX8_hold_70 : decode cX8_hold 70 = .ok (.ifCond .eq 16, 3) := by decide +kernel
theorem dX8_hold_73 : decode cX8_hold 73 = .ok (.lload_n 3, 1) := by decide +kernel
theorem dX8_hold_74 : decode cX8_hold 74 = .ok (.lconst 0, 1) := by decide +kernel
theorem dX8_hold_75 : decode cX8_hold 75 = .ok (.lcmp, 1) := by decide +kernel
theorem dX8_hold_76 : decode cX8_hold 76 = .ok (.ifCond .lt 10, 3) := by decide +kernel
theorem dX8_hold_79 : decode cX8_hold 79 = .ok (.iconst 1, 1) := by decide +kernel
theorem dX8_hold_80 : decode cX8_hold 80 = .ok (.iload 6, 2) := by decide +kernel
theorem dX8_hold_82 : decode cX8_hold 82 = .ok (.ishl, 1) := by decide +kernel
theorem dX8_hold_83 : decode cX8_hold 83 = .ok (.goto 4, 3) := by decide +kernel
theorem dX8_hold_86 : decode cX8_hold 86 = .ok (.iconst 0, 1) := by decide +kernel
theorem dX8_hold_87 : decode cX8_hold 87 = .ok (.ior, 1) := by decide +kernel
theorem dX8_hold_88 : decode cX8_hold 88 = .ok (.istore 5, 2) := by decide +kernel
theorem dX8_hold_90 : decode cX8_hold 90 = .ok (.iinc 6 1, 3) := by decide +kernel
theorem dX8_hold_93 : decode cX8_hold 93 = .ok (.goto (-41), 3) := by decide +kernel
theorem dX8_hold_96 : decode cX8_hold 96 = .ok (.iload 5, 2) := by decide +kernel
theorem dX8_hold_98 : decode cX8_hold 98 = .ok (.ireturn, 1) := by decide +kernel
theorem dX8_count_0 : decode cX8_count 0 = .ok (.aload_n 0, 1) := by decide +kernel
theorem dX8_count_1 : decode cX8_count 1 = .ok (.iconst 0, 1) := by decide +kernel
theorem dX8_count_2 : decode cX8_count 2 = .ok (.putfield 74, 3) := by decide +kernel
theorem dX8_count_5 : decode cX8_count 5 = .ok (.iload_n 1, 1) := by decide +kernel
theorem dX8_count_6 : decode cX8_count 6 = .ok (.tableswitch 111 0 6 #[42, 47, 52, 57, 96, 101, 106], 42) := by decide +kernel
theorem dX8_count_48 : decode cX8_count 48 = .ok (.aload_n 0, 1) := by decide +kernel
theorem dX8_count_49 : decode cX8_count 49 = .ok (.getfield 82, 3) := by decide +kernel
theorem dX8_count_52 : decode cX8_count 52 = .ok (.ireturn, 1) := by decide +kernel
theorem dX8_count_53 : decode cX8_count 53 = .ok (.aload_n 0, 1) := by decide +kernel
theorem dX8_count_54 : decode cX8_count 54 = .ok (.getfield 148, 3) := by decide +kernel
theorem dX8_count_57 : decode cX8_count 57 = .ok (.ireturn, 1) := by decide +kernel
theorem dX8_count_58 : decode cX8_count 58 = .ok (.aload_n 0, 1) := by decide +kernel
theorem dX8_count_59 : decode cX8_count 59 = .ok (.getfield 160, 3) := by decide +kernel
theorem dX8_count_62 : decode cX8_count 62 = .ok (.ireturn, 1) := by decide +kernel
theorem dX8_count_63 : decode cX8_count 63 = .ok (.iconst 0, 1) := by decide +kernel
theorem dX8_count_64 : decode cX8_count 64 = .ok (.istore_n 2, 1) := by decide +kernel
theorem dX8_count_65 : decode cX8_count 65 = .ok (.iconst 0, 1) := by decide +kernel
theorem dX8_count_66 : decode cX8_count 66 = .ok (.istore_n 3, 1) := by decide +kernel
theorem dX8_count_67 : decode cX8_count 67 = .ok (.iload_n 3, 1) := by decide +kernel
theorem dX8_count_68 : decode cX8_count 68 = .ok (.aload_n 0, 1) := by decide +kernel
theorem dX8_count_69 : decode cX8_count 69 = .ok (.getfield 160, 3) := by decide +kernel
theorem dX8_count_72 : decode cX8_count 72 = .ok (.if_icmp .ge 28, 3) := by decide +kernel
theorem dX8_count_75 : decode cX8_count 75 = .ok (.iload_n 2, 1) := by decide +kernel
theorem dX8_count_76 : decode cX8_count 76 = .ok (.aload_n 0, 1) := by decide +kernel
theorem dX8_count_77 : decode cX8_count 77 = .ok (.getfield 41, 3) := by decide +kernel
theorem dX8_count_80 : decode cX8_count 80 = .ok (.iload_n 3, 1) := by decide +kernel
theorem dX8_count_81 : decode cX8_count 81 = .ok (.laload, 1) := by decide +kernel
theorem dX8_count_82 : decode cX8_count 82 = .ok (.lconst 0, 1) := by decide +kernel
theorem dX8_count_83 : decode cX8_count 83 = .ok (.lcmp, 1) := by decide +kernel
theorem dX8_count_84 : decode cX8_count 84 = .ok (.ifCond .le 7, 3) := by decide +kernel
theorem dX8_count_87 : decode cX8_count 87 = .ok (.iconst 1, 1) := by decide +kernel
theorem dX8_count_88 : decode cX8_count 88 = .ok (.goto 4, 3) := by decide +kernel
theorem dX8_count_91 : decode cX8_count 91 = .ok (.iconst 0, 1) := by decide +kernel
theorem dX8_count_92 : decode cX8_count 92 = .ok (.iadd, 1) := by decide +kernel
theorem dX8_count_93 : decode cX8_count 93 = .ok (.istore_n 2, 1) := by decide +kernel
theorem dX8_count_94 : decode cX8_count 94 = .ok (.iinc 3 1, 3) := by decide +kernel
theorem dX8_count_97 : decode cX8_count 97 = .ok (.goto (-30), 3) := by decide +kernel
theorem dX8_count_100 : decode cX8_count 100 = .ok (.iload_n 2, 1) := by decide +kernel
theorem dX8_count_101 : decode cX8_count 101 = .ok (.ireturn, 1) := by decide +kernel
theorem dX8_count_102 : decode cX8_count 102 = .ok (.aload_n 0, 1) := by decide +kernel
theorem dX8_count_103 : decode cX8_count 103 = .ok (.getfield 195, 3) := by decide +kernel
theorem dX8_count_106 : decode cX8_count 106 = .ok (.ireturn, 1) := by decide +kernel
theorem dX8_count_107 : decode cX8_count 107 = .ok (.aload_n 0, 1) := by decide +kernel
theorem dX8_count_108 : decode cX8_count 108 = .ok (.getfield 157, 3) := by decide +kernel
theorem dX8_count_111 : decode cX8_count 111 = .ok (.ireturn, 1) := by decide +kernel
theorem dX8_count_112 : decode cX8_count 112 = .ok (.aload_n 0, 1) := by decide +kernel
theorem dX8_count_113 : decode cX8_count 113 = .ok (.getfield 85, 3) := by decide +kernel
theorem dX8_count_116 : decode cX8_count 116 = .ok (.ireturn, 1) := by decide +kernel
theorem dX8_count_117 : decode cX8_count 117 = .ok (.iconst (-1), 1) := by decide +kernel
theorem dX8_count_118 : decode cX8_count 118 = .ok (.ireturn, 1) := by decide +kernel
theorem dJ6_bitCount_0f7a4_0 : decode cJ6_bitCount_0f7a4 0 = .ok (.iload_n 0, 1) := by decide +kernel
theorem dJ6_bitCount_0f7a4_1 : decode cJ6_bitCount_0f7a4 1 = .ok (.iload_n 0, 1) := by decide +kernel
theorem dJ6_bitCount_0f7a4_2 : decode cJ6_bitCount_0f7a4 2 = .ok (.iconst 1, 1) := by decide +kernel
theorem dJ6_bitCount_0f7a4_3 : decode cJ6_bitCount_0f7a4 3 = .ok (.iushr, 1) := by decide +kernel
theorem dJ6_bitCount_0f7a4_4 : decode cJ6_bitCount_0f7a4 4 = .ok (.ldc_w 265, 3) := by decide +kernel
theorem dJ6_bitCount_0f7a4_7 : decode cJ6_bitCount_0f7a4 7 = .ok (.iand, 1) := by decide +kernel
theorem dJ6_bitCount_0f7a4_8 : decode cJ6_bitCount_0f7a4 8 = .ok (.isub, 1) := by decide +kernel
theorem dJ6_bitCount_0f7a4_9 : decode cJ6_bitCount_0f7a4 9 = .ok (.istore_n 0, 1) := by decide +kernel
theorem dJ6_bitCount_0f7a4_10 : decode cJ6_bitCount_0f7a4 10 = .ok (.iload_n 0, 1) := by decide +kernel
theorem dJ6_bitCount_0f7a4_11 : decode cJ6_bitCount_0f7a4 11 = .ok (.ldc_w 266, 3) := by decide +kernel
theorem dJ6_bitCount_0f7a4_14 : decode cJ6_bitCount_0f7a4 14 = .ok (.iand, 1) := by decide +kernel
theorem dJ6_bitCount_0f7a4_15 : decode cJ6_bitCount_0f7a4 15 = .ok (.iload_n 0, 1) := by decide +kernel
theorem dJ6_bitCount_0f7a4_16 : decode cJ6_bitCount_0f7a4 16 = .ok (.iconst 2, 1) := by decide +kernel
theorem dJ6_bitCount_0f7a4_17 : decode cJ6_bitCount_0f7a4 17 = .ok (.iushr, 1) := by decide +kernel
theorem dJ6_bitCount_0f7a4_18 : decode cJ6_bitCount_0f7a4 18 = .ok (.ldc_w 266, 3) := by decide +kernel
theorem dJ6_bitCount_0f7a4_21 : decode cJ6_bitCount_0f7a4 21 = .ok (.iand, 1) := by decide +kernel
theorem dJ6_bitCount_0f7a4_22 : decode cJ6_bitCount_0f7a4 22 = .ok (.iadd, 1) := by decide +kernel
theorem dJ6_bitCount_0f7a4_23 : decode cJ6_bitCount_0f7a4 23 = .ok (.istore_n 0, 1) := by decide +kernel
theorem dJ6_bitCount_0f7a4_24 : decode cJ6_bitCount_0f7a4 24 = .ok (.iload_n 0, 1) := by decide +kernel
theorem dJ6_bitCount_0f7a4_25 : decode cJ6_bitCount_0f7a4 25 = .ok (.iload_n 0, 1) := by decide +kernel
theorem dJ6_bitCount_0f7a4_26 : decode cJ6_bitCount_0f7a4 26 = .ok (.iconst 4, 1) := by decide +kernel
theorem dJ6_bitCount_0f7a4_27 : decode cJ6_bitCount_0f7a4 27 = .ok (.iushr, 1) := by decide +kernel
theorem dJ6_bitCount_0f7a4_28 : decode cJ6_bitCount_0f7a4 28 = .ok (.iadd, 1) := by decide +kernel
theorem dJ6_bitCount_0f7a4_29 : decode cJ6_bitCount_0f7a4 29 = .ok (.ldc_w 267, 3) := by decide +kernel
theorem dJ6_bitCount_0f7a4_32 : decode cJ6_bitCount_0f7a4 32 = .ok (.iand, 1) := by decide +kernel
theorem dJ6_bitCount_0f7a4_33 : decode cJ6_bitCount_0f7a4 33 = .ok (.istore_n 0, 1) := by decide +kernel
theorem dJ6_bitCount_0f7a4_34 : decode cJ6_bitCount_0f7a4 34 = .ok (.iload_n 0, 1) := by decide +kernel
theorem dJ6_bitCount_0f7a4_35 : decode cJ6_bitCount_0f7a4 35 = .ok (.iload_n 0, 1) := by decide +kernel
theorem dJ6_bitCount_0f7a4_36 : decode cJ6_bitCount_0f7a4 36 = .ok (.bipush 8, 2) := by decide +kernel
theorem dJ6_bitCount_0f7a4_38 : decode cJ6_bitCount_0f7a4 38 = .ok (.iushr, 1) := by decide +kernel
theorem dJ6_bitCount_0f7a4_39 : decode cJ6_bitCount_0f7a4 39 = .ok (.iadd, 1) := by decide +kernel
theorem dJ6_bitCount_0f7a4_40 : decode cJ6_bitCount_0f7a4 40 = .ok (.istore_n 0, 1) := by decide +kernel
theorem dJ6_bitCount_0f7a4_41 : decode cJ6_bitCount_0f7a4 41 = .ok (.iload_n 0, 1) := by decide +kernel
theorem dJ6_bitCount_0f7a4_42 : decode cJ6_bitCount_0f7a4 42 = .ok (.iload_n 0, 1) := by decide +kernel
theorem dJ6_bitCount_0f7a4_43 : decode cJ6_bitCount_0f7a4 43 = .ok (.bipush 16, 2) := by decide +kernel
theorem dJ6_bitCount_0f7a4_45 : decode cJ6_bitCount_0f7a4 45 = .ok (.iushr, 1) := by decide +kernel
theorem dJ6_bitCount_0f7a4_46 : decode cJ6_bitCount_0f7a4 46 = .ok (.iadd, 1) := by decide +kernel
end
section
theorem dJ6_bitCount_0f7a4_47 : decode cJ6_bitCount_0f7a4 47 = .ok (.istore_n 0, 1) := by decide +kernel
theorem dJ6_bitCount_0f7a4_48 : decode cJ6_bitCount_0f7a4 48 = .ok (.iload_n 0, 1) := by decide +kernel
theorem dJ6_bitCount_0f7a4_49 : decode cJ6_bitCount_0f7a4 49 = .ok (.bipush 63, 2) := by decide +kernel
theorem dJ6_bitCount_0f7a4_51 : decode cJ6_bitCount_0f7a4 51 = .ok (.iand, 1) := by decide +kernel
theorem dJ6_bitCount_0f7a4_52 : decode cJ6_bitCount_0f7a4 52 = .ok (.ireturn, 1) := by decide +kernel
theorem dJ9_max_7cf53_0 : decode cJ9_max_7cf53 0 = .ok (.iload_n 0, 1) := by decide +kernel
theorem dJ9_max_7cf53_1 : decode cJ9_max_7cf53 1 = .ok (.iload_n 1, 1) := by decide +kernel
theorem dJ9_max_7cf53_2 : decode cJ9_max_7cf53 2 = .ok (.if_icmp .lt 7, 3) := by decide +kernel
theorem dJ9_max_7cf53_5 : decode cJ9_max_7cf53 5 = .ok (.iload_n 0, 1) := by decide +kernel
theorem dJ9_max_7cf53_6 : decode cJ9_max_7cf53 6 = .ok (.goto 4, 3) := by decide +kernel
theorem dJ9_max_7cf53_9 : decode cJ9_max_7cf53 9 = .ok (.iload_n 1, 1) := by decide +kernel
theorem dJ9_max_7cf53_10 : decode cJ9_max_7cf53 10 = .ok (.ireturn, 1) := by decide +kernel
theorem dJ9_min_7cf53_0 : decode cJ9_min_7cf53 0 = .ok (.iload_n 0, 1) := by decide +kernel
theorem dJ9_min_7cf53_1 : decode cJ9_min_7cf53 1 = .ok (.iload_n 1, 1) := by decide +kernel
theorem dJ9_min_7cf53_2 : decode cJ9_min_7cf53 2 = .ok (.if_icmp .gt 7, 3) := by decide +kernel
theorem dJ9_min_7cf53_5 : decode cJ9_min_7cf53 5 = .ok (.iload_n 0, 1) := by decide +kernel
theorem dJ9_min_7cf53_6 : decode cJ9_min_7cf53 6 = .ok (.goto 4, 3) := by decide +kernel
theorem dJ9_min_7cf53_9 : decode cJ9_min_7cf53 9 = .ok (.iload_n 1, 1) := by decide +kernel
theorem dJ9_min_7cf53_10 : decode cJ9_min_7cf53 10 = .ok (.ireturn, 1) := by decide +kernel
theorem dJ9_min_f86c9_0 : decode cJ9_min_f86c9 0 = .ok (.lload_n 0, 1) := by decide +kernel
theorem dJ9_min_f86c9_1 : decode cJ9_min_f86c9 1 = .ok (.lload_n 2, 1) := by decide +kernel
theorem dJ9_min_f86c9_2 : decode cJ9_min_f86c9 2 = .ok (.lcmp, 1) := by decide +kernel
theorem dJ9_min_f86c9_3 : decode cJ9_min_f86c9 3 = .ok (.ifCond .gt 7, 3) := by decide +kernel
theorem dJ9_min_f86c9_6 : decode cJ9_min_f86c9 6 = .ok (.lload_n 0, 1) := by decide +kernel
theorem dJ9_min_f86c9_7 : decode cJ9_min_f86c9 7 = .ok (.goto 4, 3) := by decide +kernel
theorem dJ9_min_f86c9_10 : decode cJ9_min_f86c9 10 = .ok (.lload_n 2, 1) := by decide +kernel
theorem dJ9_min_f86c9_11 : decode cJ9_min_f86c9 11 = .ok (.lreturn, 1) := by decide +kernel
set_option maxRecDepth 20000 in
theorem ggJ0_length_8abf5_J0_coder_7d493 : GoodIn wsJ0_length_8abf5 wsJ0_coder_7d493 := goodIn_r _ [6, 7, 8] (by decide +kernel) (by decide +kernel)
set_option maxRecDepth 20000 in
theorem gJ0_length_8abf5_J0_coder_7d493 : GoodIn wsJ0_length_8abf5 (wsV RJ0 335 RJ0 yJ0_coder_7d493 wsJ0_coder_7d493) := goodIn_app (goodIn_of _ (by decide +kernel)) ggJ0_length_8abf5_J0_coder_7d493
theorem dJ0_length_8abf5_0 : decode cJ0_length_8abf5 0 = .ok (.aload_n 0, 1) := by decide +kernel
theorem dJ0_length_8abf5_1 : decode cJ0_length_8abf5 1 = .ok (.getfield 9, 3) := by decide +kernel
theorem dJ0_length_8abf5_4 : decode cJ0_length_8abf5 4 = .ok (.arraylength, 1) := by decide +kernel
theorem dJ0_length_8abf5_5 : decode cJ0_length_8abf5 5 = .ok (.aload_n 0, 1) := by decide +kernel
theorem dJ0_length_8abf5_6 : decode cJ0_length_8abf5 6 = .ok (.invokevirtual 335, 3) := by decide +kernel
theorem dJ0_length_8abf5_9 : decode cJ0_length_8abf5 9 = .ok (.ishr, 1) := by decide +kernel
theorem dJ0_length_8abf5_10 : decode cJ0_length_8abf5 10 = .ok (.ireturn, 1) := by decide +kernel
set_option maxRecDepth 20000 in
theorem ggJ0_charAt_5068e_J0_isLatin1_aae02 : GoodIn wsJ0_charAt_5068e wsJ0_isLatin1_aae02 := goodIn_r _ [6, 7, 8] (by decide +kernel) (by decide +kernel)
set_option maxRecDepth 20000 in
theorem gJ0_charAt_5068e_J0_isLatin1_aae02 : GoodIn wsJ0_charAt_5068e (wsV RJ0 492 RJ0 yJ0_isLatin1_aae02 wsJ0_isLatin1_aae02) := goodIn_app (goodIn_of _ (by decide +kernel)) ggJ0_charAt_5068e_J0_isLatin1_aae02
set_option maxRecDepth 20000 in
theorem ggJ0_charAt_5068e_J1_charAt_3b067 : GoodIn wsJ0_charAt_5068e wsJ1_charAt_3b067 := goodIn_r _ [12, 13, 14, 5, 15, 16, 17, 18, 19, 20] (by decide +kernel) (by decide +kernel)
set_option maxRecDepth 20000 in
theorem gJ0_charAt_5068e_J1_charAt_3b067 : GoodIn wsJ0_charAt_5068e (va_wsS RJ0 495 yJ1_charAt_3b067 wsJ1_charAt_3b067) := goodIn_app (goodIn_of _ (by decide +kernel)) ggJ0_charAt_5068e_J1_charAt_3b067
set_option maxRecDepth 20000 in
theorem ggJ0_charAt_5068e_J2_charAt_3b067 : GoodIn wsJ0_charAt_5068e wsJ2_charAt_3b067 := goodIn_r _ [24, 25, 26, 23, 27, 28, 29, 30, 31, 14, 5, 15, 16, 17, 18, 19, 20, 32, 33, 34, 35, 36, 37] (by decide +kernel) (by decide +kernel)
set_option maxRecDepth 20000 in
theorem gJ0_charAt_5068e_J2_charAt_3b067 : GoodIn wsJ0_charAt_5068e (va_wsS RJ0 498 yJ2_charAt_3b067 wsJ2_charAt_3b067) := goodIn_app (goodIn_of _ (by decide +kernel)) ggJ0_charAt_5068e_J2_charAt_3b067
theorem dJ0_charAt_5068e_0 : decode cJ0_charAt_5068e 0 = .ok (.aload_n 0, 1) := by decide +kernel
theorem dJ0_charAt_5068e_1 : decode cJ0_charAt_5068e 1 = .ok (.invokevirtual 492, 3) := by decide +kernel
theorem dJ0_charAt_5068e_4 : decode cJ0_charAt_5068e 4 = .ok (.ifCond .eq 12, 3) := by decide +kernel
theorem dJ0_charAt_5068e_7 : decode cJ0_charAt_5068e 7 = .ok (.aload_n 0, 1) := by decide +kernel
theorem dJ0_charAt_5068e_8 : decode cJ0_charAt_5068e 8 = .ok (.getfield 9, 3) := by decide +kernel
theorem dJ0_charAt_5068e_11 : decode cJ0_charAt_5068e 11 = .ok (.iload_n 1, 1) := by decide +kernel
theorem dJ0_charAt_5068e_12 : decode cJ0_charAt_5068e 12 = .ok (.invokestatic 495, 3) := by decide +kernel
theorem dJ0_charAt_5068e_15 : decode cJ0_charAt_5068e 15 = .ok (.ireturn, 1) := by decide +kernel
theorem dJ0_charAt_5068e_16 : decode cJ0_charAt_5068e 16 = .ok (.aload_n 0, 1) := by decide +kernel
theorem dJ0_charAt_5068e_17 : decode cJ0_charAt_5068e 17 = .ok (.getfield 9, 3) := by decide +kernel
theorem dJ0_charAt_5068e_20 : decode cJ0_charAt_5068e 20 = .ok (.iload_n 1, 1) := by decide +kernel
theorem dJ0_charAt_5068e_21 : decode cJ0_charAt_5068e 21 = .ok (.invokestatic 498, 3) := by decide +kernel
theorem dJ0_charAt_5068e_24 : decode cJ0_charAt_5068e 24 = .ok (.ireturn, 1) := by decide +kernel
theorem dJ0_coder_7d493_0 : decode cJ0_coder_7d493 0 = .ok (.getstatic 38, 3) := by decide +kernel
theorem dJ0_coder_7d493_3 : decode cJ0_coder_7d493 3 = .ok (.ifCond .eq 10, 3) := by decide +kernel
theorem dJ0_coder_7d493_6 : decode cJ0_coder_7d493 6 = .ok (.aload_n 0, 1) := by decide +kernel
theorem dJ0_coder_7d493_7 : decode cJ0_coder_7d493 7 = .ok (.getfield 15, 3) := by decide +kernel
theorem dJ0_coder_7d493_10 : decode cJ0_coder_7d493 10 = .ok (.goto 4, 3) := by decide +kernel
theorem dJ0_coder_7d493_13 : decode cJ0_coder_7d493 13 = .ok (.iconst 1, 1) := by decide +kernel
theorem dJ0_coder_7d493_14 : decode cJ0_coder_7d493 14 = .ok (.ireturn, 1) := by decide +kernel
theorem dJ0_isLatin1_aae02_0 : decode cJ0_isLatin1_aae02 0 = .ok (.getstatic 38, 3) := by decide +kernel
theorem dJ0_isLatin1_aae02_3 : decode cJ0_isLatin1_aae02 3 = .ok (.ifCond .eq 14, 3) := by decide +kernel
theorem dJ0_isLatin1_aae02_6 : decode cJ0_isLatin1_aae02 6 = .ok (.aload_n 0, 1) := by decide +kernel
theorem dJ0_isLatin1_aae02_7 : decode cJ0_isLatin1_aae02 7 = .ok (.getfield 15, 3) := by decide +kernel
theorem dJ0_isLatin1_aae02_10 : decode cJ0_isLatin1_aae02 10 = .ok (.ifCond .ne 7, 3) := by decide +kernel
theorem dJ0_isLatin1_aae02_13 : decode cJ0_isLatin1_aae02 13 = .ok (.iconst 1, 1) := by decide +kernel
theorem dJ0_isLatin1_aae02_14 : decode cJ0_isLatin1_aae02 14 = .ok (.goto 4, 3) := by decide +kernel
theorem dJ0_isLatin1_aae02_17 : decode cJ0_isLatin1_aae02 17 = .ok (.iconst 0, 1) := by decide +kernel
theorem dJ0_isLatin1_aae02_18 : decode cJ0_isLatin1_aae02 18 = .ok (.ireturn, 1) := by decide +kernel
set_option maxRecDepth 20000 in
theorem ggJ0_checkIndex_df160_J3_checkIndex_8e157 : GoodIn wsJ0_checkIndex_df160 wsJ3_checkIndex_8e157 := goodIn_r _ [5] (by decide +kernel) (by decide +kernel)
set_option maxRecDepth 20000 in
theorem gJ0_checkIndex_df160_J3_checkIndex_8e157 : GoodIn wsJ0_checkIndex_df160 (va_wsS RJ0 1059 yJ3_checkIndex_8e157 wsJ3_checkIndex_8e157) := goodIn_app (goodIn_of _ (by decide +kernel)) ggJ0_checkIndex_df160_J3_checkIndex_8e157
theorem dJ0_checkIndex_df160_0 : decode cJ0_checkIndex_df160 0 = .ok (.iload_n 0, 1) := by decide +kernel
theorem dJ0_checkIndex_df160_1 : decode cJ0_checkIndex_df160 1 = .ok (.iload_n 1, 1) := by decide +kernel
theorem dJ0_checkIndex_df160_2 : decode cJ0_checkIndex_df160 2 = .ok (.getstatic 1053, 3) := by decide +kernel
theorem dJ0_checkIndex_df160_5 : decode cJ0_checkIndex_df160 5 = .ok (.invokestatic 1059, 3) := by decide +kernel
theorem dJ0_checkIndex_df160_8 : decode cJ0_checkIndex_df160 8 = .ok (.pop, 1) := by decide +kernel
theorem dJ0_checkIndex_df160_9 : decode cJ0_checkIndex_df160 9 = .ok (.return_, 1) := by decide +kernel
set_option maxRecDepth 20000 in
theorem ggJ1_charAt_3b067_J0_checkIndex_df160 : GoodIn wsJ1_charAt_3b067 wsJ0_checkIndex_df160 := goodIn_r _ [4, 5, 6, 7, 8, 9] (by decide +kernel) (by decide +kernel)
set_option maxRecDepth 20000 in
theorem gJ1_charAt_3b067_J0_checkIndex_df160 : GoodIn wsJ1_charAt_3b067 (va_wsS RJ1 9 yJ0_checkIndex_df160 wsJ0_checkIndex_df160) := goodIn_app (goodIn_of _ (by decide +kernel)) ggJ1_charAt_3b067_J0_checkIndex_df160
theorem dJ1_charAt_3b067_0 : decode cJ1_charAt_3b067 0 = .ok (.iload_n 1, 1) := by decide +kernel
theorem dJ1_charAt_3b067_1 : decode cJ1_charAt_3b067 1 = .ok (.aload_n 0, 1) := by decide +kernel
theorem dJ1_charAt_3b067_2 : decode cJ1_charAt_3b067 2 = .ok (.arraylength, 1) := by decide +kernel
theorem dJ1_charAt_3b067_3 : decode cJ1_charAt_3b067 3 = .ok (.invokestatic 9, 3) := by decide +kernel
theorem dJ1_charAt_3b067_6 : decode cJ1_charAt_3b067 6 = .ok (.aload_n 0, 1) := by decide +kernel
theorem dJ1_charAt_3b067_7 : decode cJ1_charAt_3b067 7 = .ok (.iload_n 1, 1) := by decide +kernel
theorem dJ1_charAt_3b067_8 : decode cJ1_charAt_3b067 8 = .ok (.baload, 1) := by decide +kernel
theorem dJ1_charAt_3b067_9 : decode cJ1_charAt_3b067 9 = .ok (.sipush 255, 3) := by decide +kernel
theorem dJ1_charAt_3b067_12 : decode cJ1_charAt_3b067 12 = .ok (.iand, 1) := by decide +kernel
theorem dJ1_charAt_3b067_13 : decode cJ1_charAt_3b067 13 = .ok (.i2c, 1) := by decide +kernel
theorem dJ1_charAt_3b067_14 : decode cJ1_charAt_3b067 14 = .ok (.ireturn, 1) := by decide +kernel
set_option maxRecDepth 20000 in
theorem ggJ2_getChar_3b067_J2_length_9d52b : GoodIn wsJ2_getChar_3b067 wsJ2_length_9d52b := goodIn_r _ [7] (by decide +kernel) (by decide +kernel)
set_option maxRecDepth 20000 in
theorem gJ2_getChar_3b067_J2_length_9d52b : GoodIn wsJ2_getChar_3b067 (va_wsS RJ2 48 yJ2_length_9d52b wsJ2_length_9d52b) := goodIn_app (goodIn_of _ (by decide +kernel)) ggJ2_getChar_3b067_J2_length_9d52b
theorem dJ2_getChar_3b067_0 : decode cJ2_getChar_3b067 0 = .ok (.getstatic 44, 3) := by decide +kernel
theorem dJ2_getChar_3b067_3 : decode cJ2_getChar_3b067 3 = .ok (.ifCond .ne 25, 3) := by decide +kernel
theorem dJ2_getChar_3b067_6 : decode cJ2_getChar_3b067 6 = .ok (.iload_n 1, 1) := by decide +kernel
theorem dJ2_getChar_3b067_7 : decode cJ2_getChar_3b067 7 = .ok (.ifCond .lt 11, 3) := by decide +kernel
theorem dJ2_getChar_3b067_10 : decode cJ2_getChar_3b067 10 = .ok (.iload_n 1, 1) := by decide +kernel
theorem dJ2_getChar_3b067_11 : decode cJ2_getChar_3b067 11 = .ok (.aload_n 0, 1) := by decide +kernel
theorem dJ2_getChar_3b067_12 : decode cJ2_getChar_3b067 12 = .ok (.invokestatic 48, 3) := by decide +kernel
theorem dJ2_getChar_3b067_15 : decode cJ2_getChar_3b067 15 = .ok (.if_icmp .lt 13, 3) := by decide +kernel
theorem dJ2_getChar_3b067_18 : decode cJ2_getChar_3b067 18 = .ok (.new 52, 3) := by decide +kernel
theorem dJ2_getChar_3b067_21 : decode cJ2_getChar_3b067 21 = .ok (.dup, 1) := by decide +kernel
theorem dJ2_getChar_3b067_22 : decode cJ2_getChar_3b067 22 = .ok (.ldc 54, 2) := by decide +kernel
theorem dJ2_getChar_3b067_24 : decode cJ2_getChar_3b067 24 = .ok (.invokespecial 56, 3) := by decide +kernel
theorem dJ2_getChar_3b067_27 : decode cJ2_getChar_3b067 27 = .ok (.athrow, 1) := by decide +kernel
theorem dJ2_getChar_3b067_28 : decode cJ2_getChar_3b067 28 = .ok (.iload_n 1, 1) := by decide +kernel
theorem dJ2_getChar_3b067_29 : decode cJ2_getChar_3b067 29 = .ok (.iconst 1, 1) := by decide +kernel
theorem dJ2_getChar_3b067_30 : decode cJ2_getChar_3b067 30 = .ok (.ishl, 1) := by decide +kernel
theorem dJ2_getChar_3b067_31 : decode cJ2_getChar_3b067 31 = .ok (.istore_n 1, 1) := by decide +kernel
theorem dJ2_getChar_3b067_32 : decode cJ2_getChar_3b067 32 = .ok (.aload_n 0, 1) := by decide +kernel
theorem dJ2_getChar_3b067_33 : decode cJ2_getChar_3b067 33 = .ok (.iload_n 1, 1) := by decide +kernel
theorem dJ2_getChar_3b067_34 : decode cJ2_getChar_3b067 34 = .ok (.iinc 1 1, 3) := by decide +kernel
theorem dJ2_getChar_3b067_37 : decode cJ2_getChar_3b067 37 = .ok (.baload, 1) := by decide +kernel
theorem dJ2_getChar_3b067_38 : decode cJ2_getChar_3b067 38 = .ok (.sipush 255, 3) := by decide +kernel
theorem dJ2_getChar_3b067_41 : decode cJ2_getChar_3b067 41 = .ok (.iand, 1) := by decide +kernel
theorem dJ2_getChar_3b067_42 : decode cJ2_getChar_3b067 42 = .ok (.getstatic 59, 3) := by decide +kernel
theorem dJ2_getChar_3b067_45 : decode cJ2_getChar_3b067 45 = .ok (.ishl, 1) := by decide +kernel
theorem dJ2_getChar_3b067_46 : decode cJ2_getChar_3b067 46 = .ok (.aload_n 0, 1) := by decide +kernel
theorem dJ2_getChar_3b067_47 : decode cJ2_getChar_3b067 47 = .ok (.iload_n 1, 1) := by decide +kernel
theorem dJ2_getChar_3b067_48 : decode cJ2_getChar_3b067 48 = .ok (.baload, 1) := by decide +kernel
theorem dJ2_getChar_3b067_49 : decode cJ2_getChar_3b067 49 = .ok (.sipush 255, 3) := by decide +kernel
theorem dJ2_getChar_3b067_52 : decode cJ2_getChar_3b067 52 = .ok (.iand, 1) := by decide +kernel
theorem dJ2_getChar_3b067_53 : decode cJ2_getChar_3b067 53 = .ok (.getstatic 63, 3) := by decide +kernel
theorem dJ2_getChar_3b067_56 : decode cJ2_getChar_3b067 56 = .ok (.ishl, 1) := by decide +kernel
theorem dJ2_getChar_3b067_57 : decode cJ2_getChar_3b067 57 = .ok (.ior, 1) := by decide +kernel
theorem dJ2_getChar_3b067_58 : decode cJ2_getChar_3b067 58 = .ok (.i2c, 1) := by decide +kernel
theorem dJ2_getChar_3b067_59 : decode cJ2_getChar_3b067 59 = .ok (.ireturn, 1) := by decide +kernel
theorem dJ2_length_9d52b_0 : decode cJ2_length_9d52b 0 = .ok (.aload_n 0, 1) := by decide +kernel
theorem dJ2_length_9d52b_1 : decode cJ2_length_9d52b 1 = .ok (.arraylength, 1) := by decide +kernel
theorem dJ2_length_9d52b_2 : decode cJ2_length_9d52b 2 = .ok (.iconst 1, 1) := by decide +kernel
theorem dJ2_length_9d52b_3 : decode cJ2_length_9d52b 3 = .ok (.ishr, 1) := by decide +kernel
theorem dJ2_length_9d52b_4 : decode cJ2_length_9d52b 4 = .ok (.ireturn, 1) := by decide +kernel
set_option maxRecDepth 20000 in
theorem ggJ2_charAt_3b067_J2_checkIndex_2214a : GoodIn wsJ2_charAt_3b067 wsJ2_checkIndex_2214a := goodIn_r _ [4, 5, 6, 3, 7, 8, 9, 10, 11, 12, 13, 14, 15, 16] (by decide +kernel) (by decide +kernel)
set_option maxRecDepth 20000 in
theorem gJ2_charAt_3b067_J2_checkIndex_2214a : GoodIn wsJ2_charAt_3b067 (va_wsS RJ2 67 yJ2_checkIndex_2214a wsJ2_checkIndex_2214a) := goodIn_app (goodIn_of _ (by decide +kernel)) ggJ2_charAt_3b067_J2_checkIndex_2214a
set_option maxRecDepth 20000 in
theorem ggJ2_charAt_3b067_J2_getChar_3b067 : GoodIn wsJ2_charAt_3b067 wsJ2_getChar_3b067 := goodIn_r _ [19, 20, 21, 22, 5, 6, 3, 7] (by decide +kernel) (by decide +kernel)
set_option maxRecDepth 20000 in
theorem gJ2_charAt_3b067_J2_getChar_3b067 : GoodIn wsJ2_charAt_3b067 (va_wsS RJ2 71 yJ2_getChar_3b067 wsJ2_getChar_3b067) := goodIn_app (goodIn_of _ (by decide +kernel)) ggJ2_charAt_3b067_J2_getChar_3b067
theorem dJ2_charAt_3b067_0 : decode cJ2_charAt_3b067 0 = .ok (.iload_n 1, 1) := by decide +kernel
theorem dJ2_charAt_3b067_1 : decode cJ2_charAt_3b067 1 = .ok (.aload_n 0, 1) := by decide +kernel
theorem dJ2_charAt_3b067_2 : decode cJ2_charAt_3b067 2 = .ok (.invokestatic 67, 3) := by decide +kernel
theorem dJ2_charAt_3b067_5 : decode cJ2_charAt_3b067 5 = .ok (.aload_n 0, 1) := by decide +kernel
theorem dJ2_charAt_3b067_6 : decode cJ2_charAt_3b067 6 = .ok (.iload_n 1, 1) := by decide +kernel
theorem dJ2_charAt_3b067_7 : decode cJ2_charAt_3b067 7 = .ok (.invokestatic 71, 3) := by decide +kernel
theorem dJ2_charAt_3b067_10 : decode cJ2_charAt_3b067 10 = .ok (.ireturn, 1) := by decide +kernel
set_option maxRecDepth 20000 in
theorem ggJ2_checkIndex_2214a_J2_length_9d52b : GoodIn wsJ2_checkIndex_2214a wsJ2_length_9d52b := goodIn_r _ [4] (by decide +kernel) (by decide +kernel)
set_option maxRecDepth 20000 in
theorem gJ2_checkIndex_2214a_J2_length_9d52b : GoodIn wsJ2_checkIndex_2214a (va_wsS RJ2 48 yJ2_length_9d52b wsJ2_length_9d52b) := goodIn_app (goodIn_of _ (by decide +kernel)) ggJ2_checkIndex_2214a_J2_length_9d52b
set_option maxRecDepth 20000 in
theorem ggJ2_checkIndex_2214a_J0_checkIndex_df160 : GoodIn wsJ2_checkIndex_2214a wsJ0_checkIndex_df160 := goodIn_r _ [8, 9, 10, 11, 12, 13] (by decide +kernel) (by decide +kernel)
set_option maxRecDepth 20000 in
theorem gJ2_checkIndex_2214a_J0_checkIndex_df160 : GoodIn wsJ2_checkIndex_2214a (va_wsS RJ2 414 yJ0_checkIndex_df160 wsJ0_checkIndex_df160) := goodIn_app (goodIn_of _ (by decide +kernel)) ggJ2_checkIndex_2214a_J0_checkIndex_df160
theorem dJ2_checkIndex_2214a_0 : decode cJ2_checkIndex_2214a 0 = .ok (.iload_n 0, 1) := by decide +kernel
theorem dJ2_checkIndex_2214a_1 : decode cJ2_checkIndex_2214a 1 = .ok (.aload_n 1, 1) := by decide +kernel
theorem dJ2_checkIndex_2214a_2 : decode cJ2_checkIndex_2214a 2 = .ok (.invokestatic 48, 3) := by decide +kernel
theorem dJ2_checkIndex_2214a_5 : decode cJ2_checkIndex_2214a 5 = .ok (.invokestatic 414, 3) := by decide +kernel
theorem dJ2_checkIndex_2214a_8 : decode cJ2_checkIndex_2214a 8 = .ok (.return_, 1) := by decide +kernel
theorem dJ3_checkIndex_8e157_0 : decode cJ3_checkIndex_8e157 0 = .ok (.iload_n 0, 1) := by decide +kernel
theorem dJ3_checkIndex_8e157_1 : decode cJ3_checkIndex_8e157 1 = .ok (.ifCond .lt 8, 3) := by decide +kernel
theorem dJ3_checkIndex_8e157_4 : decode cJ3_checkIndex_8e157 4 = .ok (.iload_n 0, 1) := by decide +kernel
theorem dJ3_checkIndex_8e157_5 : decode cJ3_checkIndex_8e157 5 = .ok (.iload_n 1, 1) := by decide +kernel
theorem dJ3_checkIndex_8e157_6 : decode cJ3_checkIndex_8e157 6 = .ok (.if_icmp .lt 10, 3) := by decide +kernel
theorem dJ3_checkIndex_8e157_9 : decode cJ3_checkIndex_8e157 9 = .ok (.aload_n 2, 1) := by decide +kernel
theorem dJ3_checkIndex_8e157_10 : decode cJ3_checkIndex_8e157 10 = .ok (.iload_n 0, 1) := by decide +kernel
theorem dJ3_checkIndex_8e157_11 : decode cJ3_checkIndex_8e157 11 = .ok (.iload_n 1, 1) := by decide +kernel
theorem dJ3_checkIndex_8e157_12 : decode cJ3_checkIndex_8e157 12 = .ok (.invokestatic 95, 3) := by decide +kernel
theorem dJ3_checkIndex_8e157_15 : decode cJ3_checkIndex_8e157 15 = .ok (.athrow, 1) := by decide +kernel
theorem dJ3_checkIndex_8e157_16 : decode cJ3_checkIndex_8e157 16 = .ok (.iload_n 0, 1) := by decide +kernel
theorem dJ3_checkIndex_8e157_17 : decode cJ3_checkIndex_8e157 17 = .ok (.ireturn, 1) := by decide +kernel
end
section
abbrev vwCl : List vw_C := [(RX0, TX0, 4), (RX1, TX1, 4), (RX2, TX2, 8), (RX3, TX3, 5), (RX4, TX4, 5), (RX5, TX5, 2), (RX6, TX6, 11), (RX7, TX7, 9), (RX8, TX8, 31)]
end
section
/-! The pure words: a state is int fields, int rows, long rows, by numbers; loops with fuel -/
abbrev SS : Type := (Nat → Int32) × (Nat → Nat → Int32) × (Nat → Nat → Int64)
def sI (σ : SS) (k : Nat) (v : Int32) : SS := (fun j => bif Nat.beq j k then v else σ.1 j, σ.2.1, σ.2.2)
def sA (σ : SS) (a j : Nat) (v : Int32) : SS := (σ.1, fun b => bif Nat.beq b a then upd (σ.2.1 b) j v else σ.2.1 b, σ.2.2)
def sL (σ : SS) (a j : Nat) (v : Int64) : SS := (σ.1, σ.2.1, fun b => bif Nat.beq b a then vp_updL (σ.2.2 b) j v else σ.2.2 b)
def bnd {α β : Type} (o : Option (α × SS)) (k : α → SS → Option β) : Option β := match o with
  | none => none
  | some x => k x.1 x.2
theorem bd {α β : Type} {o : Option (α × SS)} {k : α → SS → Option β} {R : β} (h : bnd o k = some R) : ∃ (r : α) (t : SS), o = some (r, t) ∧ k r t = some R := by
  cases o with
  | none => cases h
  | some x => exact ⟨x.1, x.2, rfl, h⟩
theorem gd {β : Type} {P : Prop} [Decidable P] {A : Option β} {R : β} (h : (if P then A else none) = some R) : P ∧ A = some R := by
  by_cases hp : P
  · exact ⟨hp, (if_pos hp).symm.trans h⟩
  · rw [if_neg hp] at h
    cases h
abbrev inB (i : Int32) (n : Nat) : Prop := ¬ (i < 0 ∨ n ≤ i.toNatClampNeg)
def loopN {X β : Type} (body : (SS → X → Option β) → SS → X → Option β) : Nat → SS → X → Option β
  | 0 => fun _ _ => none
  | n + 1 => body (loopN body n)
theorem loopW {X β : Type} {body : (SS → X → Option β) → SS → X → Option β} {R : β} {P : SS → X → Prop} (hb : ∀ k : SS → X → Option β, (∀ σ x, k σ x = some R → P σ x) → ∀ σ x, body k σ x = some R → P σ x) : ∀ (n : Nat) (σ : SS) (x : X), loopN body n σ x = some R → P σ x
  | 0, _, _, h => by cases h
  | n + 1, σ, x, h => hb (loopN body n) (loopW hb n) σ x h
/-! A method's surroundings, and the world at a point of it -/
def Cx (p : Program) (s : State) (m : MethodId) (args : Array Value) (meth : Method) (c : Code) (cc : ByteArray) (nL : Nat) (Ts : List Cond) (ret : Option FieldType) (own : String) (D : va_G) (tys : List (ClassId × FieldType)) (A : Nat → Prop) : Prop :=
  CallFix p m c cc nL s args Ts own ∧ meth.sig.returnType = ret ∧ meth.locks = false ∧ va_K D vwCl tys s ∧ ∀ q, s.heap.size ≤ q → A q
def Aw (D : va_G) (A : Nat → Prop) (H0 : Heap) (w : va_W) (H : Heap) (locs : List Loc) : Prop := va_P D vwCl w H ∧ va_D A w ∧ va_S A H0 H locs
def Pw (D : va_G) (tys : List (ClassId × FieldType)) (w : va_W) (av : List Value) (sz : Nat) : Array Value → State → Prop := va_Pc av (fun U => U.heap.size = sz ∧ va_P D vwCl w U.heap ∧ va_K D vwCl tys U ∧ va_D (fun _ => True) w)
def Bw (D : va_G) (tys : List (ClassId × FieldType)) (A : Nat → Prop) (w : va_W) : Unit → State → Prop := fun _ t => va_P D vwCl w t.heap ∧ va_K D vwCl tys t ∧ va_D A w
def Qi (D : va_G) (tys : List (ClassId × FieldType)) (A : Nat → Prop) (w : va_W) (r : Int32) : Array Value → State → Outcome → State → Prop := va_Qi (fun (v : Int32) (_ : Unit) => v = r) (Bw D tys A w) A
def Ql (D : va_G) (tys : List (ClassId × FieldType)) (A : Nat → Prop) (w : va_W) (r : Int64) : Array Value → State → Outcome → State → Prop := va_Ql (fun (v : Int64) (_ : Unit) => v = r) (Bw D tys A w) A
def Qv (D : va_G) (tys : List (ClassId × FieldType)) (A : Nat → Prop) (w : va_W) (_ : Unit) : Array Value → State → Outcome → State → Prop := va_Qv (fun (_ : Unit) => True) (Bw D tys A w) A
theorem Pw_blind {D : va_G} {tys : List (ClassId × FieldType)} {w : va_W} {av : List Value} {sz : Nat} : FrameBlind (Pw D tys w av sz) := by
  intro a U g mk q
  obtain ⟨q0, q1, qP, qK, qD⟩ := q
  exact ⟨q0, q1, qP, va_K.moved (u := U) (U := U.calling g mk a) (Vm.Alike.refl U.vm) qK, qD⟩
theorem ofM {l : Launch} {y : MethodName} {ws ws' : List Cond} {rm : Room} {D : va_G} {tys : List (ClassId × FieldType)} {w : va_W} {av : List Value} {sz : Nat} {Qc : Array Value → State → Outcome → State → Prop} {cc : ByteArray} {nL : Nat} {ret : Option FieldType} {own : String} {mc ms : Nat}
    (hy : plainName y.cls = true) (ho : y.cls = own) (hw : ws = Cond.code y cc nL ret :: ws') (hlen : (lg_sl av).length ≤ nL)
    (body : ∀ (p : Program) (e : Env) (s : State) (m : MethodId) (below : List Frame) (meth : Method) (c : Code), s.heap.size = sz → Cx p s m av.toArray meth c cc nL ws ret own D tys (va_A w sz) → Aw D (va_A w sz) s.heap w s.heap [] → ∀ ls : Array Slot, lv_has ls nL (lv_args 0 av) → W p l e rm s m av.toArray below meth c s.heap [] 0 0 (MQ below Qc av.toArray s mc ms (va_A w sz)) (F0 m 0 ls [])) :
    Met l y ws rm (Pw D tys w av sz) Qc mc ms (va_A w sz) := by
  refine Met.ofW (cc := cc) (maxL := nL) (ret := ret) hy hw ?_
  intro p e s m args below meth c s₁ B hml hv
  obtain ⟨rfl, hsz, hP, hK, hD0⟩ := hv
  have hts := atoms_spec (ws := ws) B.pre
  have hown : s.vm.findClass own = some m.cls := by rw [← ho]; exact findClass_of_methodNamed B.named
  have hl := lv_entry av (n := nL) hlen
  rw [lg_entry_eq]
  exact body p e s m below meth c hsz ⟨⟨B.exec, B.bytes, hml, hown, hts⟩, B.returns, B.notSynchronized, hK, fun q h => Or.inr (by rw [← hsz]; exact h)⟩ ⟨hP, hD0.self, va_S.rf⟩ _ hl
section RowsB
variable {p : Program} {l : Launch} {e : Env} {R : Room} {s : State} {m : MethodId} {args : Array Value} {below : List Frame} {meth : Method} {c : Code} {H : Heap} {locs : List Loc} {cells slots : Nat} {Q : State → Prop}
variable {cc : ByteArray} {pc nL : Nat} {ls : Array Slot} {rest : List Value} {D : va_G} {A : Nat → Prop} {tys : List (ClassId × FieldType)} {w : va_W} {Ts : List Cond} {own : String} {ret : Option FieldType}
theorem r_iret {v : Int32} (C : Cx p s m args meth c cc nL Ts (some .int) own D tys A) (h : Aw D A s.heap w H locs) (hdg : decode cc pc = .ok (.ireturn, 1)) : W p l e R s m args below meth c H locs cells slots (MQ below (Qi D tys A w v) args s cells slots A) (F0 m pc ls [.int v]) := by
  have hlocks := C.2.2.1
  exact W.iret C.1.1 C.1.2.1 C.2.1 (fun t ht hW => ⟨⟨v, (), rfl, rfl, by rw [ht]; exact h.1, va_K.moved hW.alike C.2.2.2.1, h.2.1⟩, h.2.2.F ht⟩) h.2.2.2.2 hdg
theorem r_zret {v : Int32} (C : Cx p s m args meth c cc nL Ts (some .boolean) own D tys A) (h : Aw D A s.heap w H locs) (hn : narrow .boolean (.int v) = .int v) (hdg : decode cc pc = .ok (.ireturn, 1)) : W p l e R s m args below meth c H locs cells slots (MQ below (Qi D tys A w v) args s cells slots A) (F0 m pc ls [.int v]) := by
  have hlocks := C.2.2.1
  exact W.zret C.1.1 C.1.2.1 C.2.1 hn (fun t ht hW => ⟨⟨v, (), rfl, rfl, by rw [ht]; exact h.1, va_K.moved hW.alike C.2.2.2.1, h.2.1⟩, h.2.2.F ht⟩) h.2.2.2.2 hdg
theorem r_lret {v : Int64} (C : Cx p s m args meth c cc nL Ts (some .long) own D tys A) (h : Aw D A s.heap w H locs) (hdg : decode cc pc = .ok (.lreturn, 1)) : W p l e R s m args below meth c H locs cells slots (MQ below (Ql D tys A w v) args s cells slots A) (F0 m pc ls [.long v]) := by
  have hlocks := C.2.2.1
  exact W.lret C.1.1 C.1.2.1 C.2.1 (fun t ht hW => ⟨⟨v, (), rfl, rfl, by rw [ht]; exact h.1, va_K.moved hW.alike C.2.2.2.1, h.2.1⟩, h.2.2.F ht⟩) h.2.2.2.2 hdg
theorem r_vret {u : Unit} (C : Cx p s m args meth c cc nL Ts none own D tys A) (h : Aw D A s.heap w H locs) (hdg : decode cc pc = .ok (.return_, 1)) : W p l e R s m args below meth c H locs cells slots (MQ below (Qv D tys A w u) args s cells slots A) (F0 m pc ls []) := by
  have hlocks := C.2.2.1
  exact W.vret C.1.1 C.1.2.1 C.2.1 (fun t ht hW => ⟨⟨(), rfl, trivial, by rw [ht]; exact h.1, va_K.moved hW.alike C.2.2.2.1, h.2.1⟩, h.2.2.F ht⟩) h.2.2.2.2 hdg
/-- a field is read: its value by its place in the world -/
theorem r_get {C0 ref : String} {T : u_T} {N ci index : Nat} {a : Nat} (C : Cx p s m args meth c cc nL Ts ret own D tys A) (h : Aw D A s.heap w H locs) (hin : ∀ x ∈ u_ws C0 T N, x ∈ Ts) (q0 k : Nat) {fs : List Value} (he : w[q0]? = some (a, .inr (ci, fs))) (hc : vwCl[ci]? = some (C0, T, N)) (hk : k < N) {v : Value} (hv : fs[k]? = some v) (hr : ref = (T k).1) (hl : Cond.fieldLink own index ref (T k).2.1 (T k).2.2.1 ∈ Ts) (hdg : decode cc pc = .ok (.getfield index, 3))
    (kk : W p l e R s m args below meth c H locs cells slots Q (F0 m (pc + 3) ls (v :: rest))) : W p l e R s m args below meth c H locs cells slots Q (F0 m pc ls (.ref a :: rest)) :=
  va_get (D := D) (ci := ci) (v := v) (C := C0) (T := T) (N := N) C.1.1 C.1.2.1 C.1.2.2.2.2 hin C.1.2.2.2.1 C.2.2.2.1 h.1 q0 he hc k hk (C.1.2.2.2.2 _ hl) (fun x h9 => by rw [hr]; exact h9) hv hdg kk
/-- a field is written -/
theorem r_put {C0 ref : String} {T : u_T} {N ci index : Nat} {a : Nat} (C : Cx p s m args meth c cc nL Ts ret own D tys A) (h : Aw D A s.heap w H locs) (hin : ∀ x ∈ u_ws C0 T N, x ∈ Ts) (ty0 : Nat → FieldType) (hty : ∀ k, k < N → parseFieldDescriptor (T k).2.2.1 = some (ty0 k)) (hnm : ∀ a, a < N → ∀ b, b < N → a ≠ b → (T a).2.1 ≠ (T b).2.1) (q0 k : Nat) {fs : List Value} (he : w[q0]? = some (a, .inr (ci, fs))) (hc : vwCl[ci]? = some (C0, T, N)) (hk : k < N) {v : Int32} (hd : parseFieldDescriptor (T k).2.2.1 = some .int) (hf : (T k).2.2.2 = false) (hfl : k < fs.length) (hr : ref = (T k).1) (hl : Cond.fieldLink own index ref (T k).2.1 (T k).2.2.1 ∈ Ts) (hdg : decode cc pc = .ok (.putfield index, 3)) {w1 : va_W} (hw : w.set q0 (a, .inr (ci, fs.set k (.int v))) = w1)
    (kk : ∀ (H1 : Heap) (locs1 : List Loc), Aw D A s.heap w1 H1 locs1 → W p l e R s m args below meth c H1 locs1 cells slots Q (F0 m (pc + 3) ls rest)) : W p l e R s m args below meth c H locs cells slots Q (F0 m pc ls (.int v :: .ref a :: rest)) := by
  subst hw
  exact va_put (D := D) (ci := ci) (v := .int v) (ty := .int) (C := C0) (T := T) (N := N) C.1.1 C.1.2.1 C.1.2.2.2.2 hin ty0 hty hnm C.1.2.2.2.1 C.2.2.2.1 h.1 h.2.1 h.2.2 q0 he hc k hk (C.1.2.2.2.2 _ hl) (fun x h9 => by rw [hr]; exact h9) hf hd rfl rfl hfl hdg (fun H1 locs1 hP hD hS => kk H1 locs1 ⟨hP, hD, hS⟩)
theorem r_iald {n a : Nat} {cA : ClassId} {f : Nat → Int32} {i : Int32} (C : Cx p s m args meth c cc nL Ts ret own D tys A) (h : Aw D A s.heap w H locs) (q0 t0 : Nat) (ha : w[q0]? = some (a, .inl (cA, n, .inl f))) (ht : tys[t0]? = some (cA, .int)) (hin : inB i n) (hdg : decode cc pc = .ok (.iaload, 1))
    (kk : W p l e R s m args below meth c H locs cells slots Q (F0 m (pc + 1) ls (.int (f i.toNatClampNeg) :: rest))) : W p l e R s m args below meth c H locs cells slots Q (F0 m pc ls (.int i :: .ref a :: rest)) := va_iald C.1.1 C.1.2.1 C.2.2.2.1 h.1 q0 t0 ha ht hin hdg kk
theorem r_bald {n a : Nat} {cA : ClassId} {f : Nat → Int32} {i : Int32} (C : Cx p s m args meth c cc nL Ts ret own D tys A) (h : Aw D A s.heap w H locs) (q0 t0 : Nat) (ha : w[q0]? = some (a, .inl (cA, n, .inl f))) (ht : tys[t0]? = some (cA, .byte)) (hin : inB i n) (hdg : decode cc pc = .ok (.baload, 1))
    (kk : W p l e R s m args below meth c H locs cells slots Q (F0 m (pc + 1) ls (.int (f i.toNatClampNeg) :: rest))) : W p l e R s m args below meth c H locs cells slots Q (F0 m pc ls (.int i :: .ref a :: rest)) := va_bald C.1.1 C.1.2.1 C.2.2.2.1 h.1 q0 t0 ha ht hin hdg kk
theorem r_zald {n a : Nat} {cA : ClassId} {f : Nat → Int32} {i : Int32} (C : Cx p s m args meth c cc nL Ts ret own D tys A) (h : Aw D A s.heap w H locs) (q0 t0 : Nat) (ha : w[q0]? = some (a, .inl (cA, n, .inl f))) (ht : tys[t0]? = some (cA, .boolean)) (hin : inB i n) (hdg : decode cc pc = .ok (.baload, 1))
    (kk : W p l e R s m args below meth c H locs cells slots Q (F0 m (pc + 1) ls (.int (f i.toNatClampNeg) :: rest))) : W p l e R s m args below meth c H locs cells slots Q (F0 m pc ls (.int i :: .ref a :: rest)) := va_zald C.1.1 C.1.2.1 C.2.2.2.1 h.1 q0 t0 ha ht hin hdg kk
theorem r_lald {n a : Nat} {cA : ClassId} {f : Nat → Int64} {i : Int32} (C : Cx p s m args meth c cc nL Ts ret own D tys A) (h : Aw D A s.heap w H locs) (q0 t0 : Nat) (ha : w[q0]? = some (a, .inl (cA, n, .inr (.inl f)))) (ht : tys[t0]? = some (cA, .long)) (hin : inB i n) (hdg : decode cc pc = .ok (.laload, 1))
    (kk : W p l e R s m args below meth c H locs cells slots Q (F0 m (pc + 1) ls (.long (f i.toNatClampNeg) :: rest))) : W p l e R s m args below meth c H locs cells slots Q (F0 m pc ls (.int i :: .ref a :: rest)) := va_lald C.1.1 C.1.2.1 C.2.2.2.1 h.1 q0 t0 ha ht hin hdg kk
theorem r_iast {n a : Nat} {cA : ClassId} {f : Nat → Int32} {i x : Int32} {w1 : va_W} (C : Cx p s m args meth c cc nL Ts ret own D tys A) (h : Aw D A s.heap w H locs) (q0 t0 : Nat) (ha : w[q0]? = some (a, .inl (cA, n, .inl f))) (ht : tys[t0]? = some (cA, .int)) (hin : inB i n) (hdg : decode cc pc = .ok (.iastore, 1)) (hw : w.set q0 (a, .inl (cA, n, .inl (upd f i.toNatClampNeg x))) = w1)
    (kk : ∀ (H1 : Heap) (locs1 : List Loc), Aw D A s.heap w1 H1 locs1 → W p l e R s m args below meth c H1 locs1 cells slots Q (F0 m (pc + 1) ls rest)) : W p l e R s m args below meth c H locs cells slots Q (F0 m pc ls (.int x :: .int i :: .ref a :: rest)) := by
  subst hw
  exact va_iast C.1.1 C.1.2.1 C.2.2.2.1 h.1 h.2.1 h.2.2 q0 t0 ha ht hin hdg (fun H1 locs1 hP hD hS => kk H1 locs1 ⟨hP, hD, hS⟩)
theorem r_bast {n a : Nat} {cA : ClassId} {f : Nat → Int32} {i x : Int32} {w1 : va_W} (C : Cx p s m args meth c cc nL Ts ret own D tys A) (h : Aw D A s.heap w H locs) (q0 t0 : Nat) (ha : w[q0]? = some (a, .inl (cA, n, .inl f))) (ht : tys[t0]? = some (cA, .byte)) (hin : inB i n) (hdg : decode cc pc = .ok (.bastore, 1)) (hw : w.set q0 (a, .inl (cA, n, .inl (upd f i.toNatClampNeg (vp_nar .byte x)))) = w1)
    (kk : ∀ (H1 : Heap) (locs1 : List Loc), Aw D A s.heap w1 H1 locs1 → W p l e R s m args below meth c H1 locs1 cells slots Q (F0 m (pc + 1) ls rest)) : W p l e R s m args below meth c H locs cells slots Q (F0 m pc ls (.int x :: .int i :: .ref a :: rest)) := by
  subst hw
  exact va_bast C.1.1 C.1.2.1 C.2.2.2.1 h.1 h.2.1 h.2.2 q0 t0 ha ht hin hdg (fun H1 locs1 hP hD hS => kk H1 locs1 ⟨hP, hD, hS⟩)
theorem r_zast {n a : Nat} {cA : ClassId} {f : Nat → Int32} {i x : Int32} {w1 : va_W} (C : Cx p s m args meth c cc nL Ts ret own D tys A) (h : Aw D A s.heap w H locs) (q0 t0 : Nat) (ha : w[q0]? = some (a, .inl (cA, n, .inl f))) (ht : tys[t0]? = some (cA, .boolean)) (hin : inB i n) (hdg : decode cc pc = .ok (.bastore, 1)) (hw : w.set q0 (a, .inl (cA, n, .inl (upd f i.toNatClampNeg (vp_nar .boolean x)))) = w1)
    (kk : ∀ (H1 : Heap) (locs1 : List Loc), Aw D A s.heap w1 H1 locs1 → W p l e R s m args below meth c H1 locs1 cells slots Q (F0 m (pc + 1) ls rest)) : W p l e R s m args below meth c H locs cells slots Q (F0 m pc ls (.int x :: .int i :: .ref a :: rest)) := by
  subst hw
  exact va_zast C.1.1 C.1.2.1 C.2.2.2.1 h.1 h.2.1 h.2.2 q0 t0 ha ht hin hdg (fun H1 locs1 hP hD hS => kk H1 locs1 ⟨hP, hD, hS⟩)
theorem r_last {n a : Nat} {cA : ClassId} {f : Nat → Int64} {i : Int32} {x : Int64} {w1 : va_W} (C : Cx p s m args meth c cc nL Ts ret own D tys A) (h : Aw D A s.heap w H locs) (q0 t0 : Nat) (ha : w[q0]? = some (a, .inl (cA, n, .inr (.inl f)))) (ht : tys[t0]? = some (cA, .long)) (hin : inB i n) (hdg : decode cc pc = .ok (.lastore, 1)) (hw : w.set q0 (a, .inl (cA, n, .inr (.inl (vp_updL f i.toNatClampNeg x)))) = w1)
    (kk : ∀ (H1 : Heap) (locs1 : List Loc), Aw D A s.heap w1 H1 locs1 → W p l e R s m args below meth c H1 locs1 cells slots Q (F0 m (pc + 1) ls rest)) : W p l e R s m args below meth c H locs cells slots Q (F0 m pc ls (.long x :: .int i :: .ref a :: rest)) := by
  subst hw
  exact va_last C.1.1 C.1.2.1 C.2.2.2.1 h.1 h.2.1 h.2.2 q0 t0 ha ht hin hdg (fun H1 locs1 hP hD hS => kk H1 locs1 ⟨hP, hD, hS⟩)
theorem Aw_in {sz : Nat} (C : Cx p s m args meth c cc nL Ts ret own D tys A) (h : Aw D A s.heap w H locs) (hs : H.size = sz) : ∀ q, va_A w sz q → A q := by
  intro q hq
  rcases hq with ⟨k, e, hk⟩ | hq
  · exact h.2.1.2 k _ hk
  · exact C.2.2.2.2 q (Nat.le_trans h.2.2.1 (by omega))
theorem Aw_pre {As : List Value} (C : Cx p s m args meth c cc nL Ts ret own D tys A) (h : Aw D A s.heap w H locs) : ∀ U : State, U.heap = H → s.WarmedH U.vm → Pw D tys w As H.size As.toArray U := fun U hU hW => ⟨rfl, by rw [hU], by rw [hU]; exact h.1, va_K.moved hW.alike C.2.2.2.1, h.2.1.weaken (fun _ _ _ _ => trivial)⟩
theorem Aw_back {sz : Nat} {w1 : va_W} {t : State} {H1 : Heap} {locs1 : List Loc} (C : Cx p s m args meth c cc nL Ts ret own D tys A) (h : Aw D A s.heap w H locs) (hs : H.size = sz) (ht : t.heap = H1) (hB : Bw D tys (va_A w sz) w1 () t) (hS : va_S A s.heap H1 locs1) : Aw D A s.heap w1 H1 locs1 :=
  ⟨by rw [← ht]; exact hB.1, hB.2.2.weaken (fun _ _ _ q => Aw_in C h hs _ q), hS⟩
/-- a call within the same world: the method of an object that lies at place q0 -/
theorem r_callVi {y : MethodName} {wsY : List Cond} {rmY : Room} {bytes : ByteArray} {maxL n index b mc ms : Nat} {retY : Option FieldType} {As : List Value} {w1 : va_W} {r : Int32} {CN : String} {T : u_T} {N ci : Nat} {fs : List Value} {st : List Value}
    (C : Cx p s m args meth c cc nL Ts ret own D tys A) (h : Aw D A s.heap w H locs) (hl : ls.size = nL) (hM : ∀ sz, Met l y wsY rmY (Pw D tys w (.ref b :: As) sz) (Qi D tys (va_A w sz) w1 r) mc ms (va_A w sz))
    (cw : CallW R s args own CN index y bytes maxL retY wsY rmY mc ms n) (q0 : Nat) (he : w[q0]? = some (b, .inr (ci, fs))) (hc : vwCl[ci]? = some (CN, T, N)) (hn : As.length = n) (hst : st = As.reverse ++ .ref b :: rest) (hW : (rest.map fun v => v.category).sum ≤ 8) (hdg : decode cc pc = .ok (.invokevirtual index, 3)) (hf : cells + mc ≤ R.cells ∧ slots + ms ≤ R.slots)
    (kk : ∀ (H1 : Heap) (locs1 : List Loc), Aw D A s.heap w1 H1 locs1 → W p l e R s m args below meth c H1 locs1 (cells + mc) (slots + ms) Q (F0 m (pc + 3) ls (.int r :: rest))) : W p l e R s m args below meth c H locs cells slots Q (F0 m pc ls st) := by
  refine va_calli (va_runV (As := As) (rest := rest) C.1 (hM H.size) cw ⟨Pw_blind, va_recv C.2.2.2.1 h.1 hc he, Aw_pre C h⟩ rfl hn hl hst (lv_room hW) hdg hf) h.2.2 (fun q _ hq => Aw_in C h rfl q hq) (Aw_in C h rfl) (fun r1 u t H1 locs1 ht hvm hw hB hz1 hk1 hS => ?_)
  cases hw
  exact kk H1 locs1 (Aw_back C h rfl ht hB hS)
theorem r_callVl {y : MethodName} {wsY : List Cond} {rmY : Room} {bytes : ByteArray} {maxL n index b mc ms : Nat} {retY : Option FieldType} {As : List Value} {w1 : va_W} {r : Int64} {CN : String} {T : u_T} {N ci : Nat} {fs : List Value} {st : List Value}
    (C : Cx p s m args meth c cc nL Ts ret own D tys A) (h : Aw D A s.heap w H locs) (hl : ls.size = nL) (hM : ∀ sz, Met l y wsY rmY (Pw D tys w (.ref b :: As) sz) (Ql D tys (va_A w sz) w1 r) mc ms (va_A w sz))
    (cw : CallW R s args own CN index y bytes maxL retY wsY rmY mc ms n) (q0 : Nat) (he : w[q0]? = some (b, .inr (ci, fs))) (hc : vwCl[ci]? = some (CN, T, N)) (hn : As.length = n) (hst : st = As.reverse ++ .ref b :: rest) (hW : (rest.map fun v => v.category).sum ≤ 8) (hdg : decode cc pc = .ok (.invokevirtual index, 3)) (hf : cells + mc ≤ R.cells ∧ slots + ms ≤ R.slots)
    (kk : ∀ (H1 : Heap) (locs1 : List Loc), Aw D A s.heap w1 H1 locs1 → W p l e R s m args below meth c H1 locs1 (cells + mc) (slots + ms) Q (F0 m (pc + 3) ls (.long r :: rest))) : W p l e R s m args below meth c H locs cells slots Q (F0 m pc ls st) := by
  refine va_calll (va_runV (As := As) (rest := rest) C.1 (hM H.size) cw ⟨Pw_blind, va_recv C.2.2.2.1 h.1 hc he, Aw_pre C h⟩ rfl hn hl hst (lv_room hW) hdg hf) h.2.2 (fun q _ hq => Aw_in C h rfl q hq) (Aw_in C h rfl) (fun r1 u t H1 locs1 ht hvm hw hB hz1 hk1 hS => ?_)
  cases hw
  exact kk H1 locs1 (Aw_back C h rfl ht hB hS)
theorem r_callVv {y : MethodName} {wsY : List Cond} {rmY : Room} {bytes : ByteArray} {maxL n index b mc ms : Nat} {retY : Option FieldType} {As : List Value} {w1 : va_W} {r : Unit} {CN : String} {T : u_T} {N ci : Nat} {fs : List Value} {st : List Value}
    (C : Cx p s m args meth c cc nL Ts ret own D tys A) (h : Aw D A s.heap w H locs) (hl : ls.size = nL) (hM : ∀ sz, Met l y wsY rmY (Pw D tys w (.ref b :: As) sz) (Qv D tys (va_A w sz) w1 r) mc ms (va_A w sz))
    (cw : CallW R s args own CN index y bytes maxL retY wsY rmY mc ms n) (q0 : Nat) (he : w[q0]? = some (b, .inr (ci, fs))) (hc : vwCl[ci]? = some (CN, T, N)) (hn : As.length = n) (hst : st = As.reverse ++ .ref b :: rest) (hW : (rest.map fun v => v.category).sum ≤ 8) (hdg : decode cc pc = .ok (.invokevirtual index, 3)) (hf : cells + mc ≤ R.cells ∧ slots + ms ≤ R.slots)
    (kk : ∀ (H1 : Heap) (locs1 : List Loc), Aw D A s.heap w1 H1 locs1 → W p l e R s m args below meth c H1 locs1 (cells + mc) (slots + ms) Q (F0 m (pc + 3) ls rest)) : W p l e R s m args below meth c H locs cells slots Q (F0 m pc ls st) := by
  refine va_callv (va_runV (As := As) (rest := rest) C.1 (hM H.size) cw ⟨Pw_blind, va_recv C.2.2.2.1 h.1 hc he, Aw_pre C h⟩ rfl hn hl hst (lv_room hW) hdg hf) h.2.2 (fun q _ hq => Aw_in C h rfl q hq) (Aw_in C h rfl) (fun u t H1 locs1 ht hvm hw hB hz1 hk1 hS => ?_)
  exact kk H1 locs1 (Aw_back C h rfl ht hB hS)
theorem r_callSi {y : MethodName} {wsY : List Cond} {rmY : Room} {bytes : ByteArray} {maxL n index mc ms : Nat} {retY : Option FieldType} {As : List Value} {w1 : va_W} {r : Int32} {st : List Value}
    (C : Cx p s m args meth c cc nL Ts ret own D tys A) (h : Aw D A s.heap w H locs) (hl : ls.size = nL) (hM : ∀ sz, Met l y wsY rmY (Pw D tys w As sz) (Qi D tys (va_A w sz) w1 r) mc ms (va_A w sz))
    (cw : CallB R s args own index y bytes maxL retY wsY rmY mc ms n ∧ (Cond.static y).before args s = true) (hn : As.length = n) (hst : st = As.reverse ++ rest) (hW : (rest.map fun v => v.category).sum ≤ 8) (hdg : decode cc pc = .ok (.invokestatic index, 3)) (hf : cells + mc ≤ R.cells ∧ slots + ms ≤ R.slots)
    (kk : ∀ (H1 : Heap) (locs1 : List Loc), Aw D A s.heap w1 H1 locs1 → W p l e R s m args below meth c H1 locs1 (cells + mc) (slots + ms) Q (F0 m (pc + 3) ls (.int r :: rest))) : W p l e R s m args below meth c H locs cells slots Q (F0 m pc ls st) := by
  refine va_calli (va_runS (As := As) (rest := rest) C.1 (hM H.size) cw ⟨Pw_blind, Aw_pre C h⟩ rfl hn hl hst (lv_room hW) hdg hf) h.2.2 (fun q _ hq => Aw_in C h rfl q hq) (Aw_in C h rfl) (fun r1 u t H1 locs1 ht hvm hw hB hz1 hk1 hS => ?_)
  cases hw
  exact kk H1 locs1 (Aw_back C h rfl ht hB hS)
end RowsB
end

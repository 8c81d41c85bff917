section
def lw_okq (q : MethodName × Nat) : Prop := (q.1.cls ≠ "java/lang/invoke/MethodHandle" ∧ q.1.cls ≠ "java/lang/invoke/VarHandle") ∧ Cond.instantiable q.1.cls q.2 ∈ tables_1 ∧ Cond.privateMethod q.1 ∈ tables_1 ∧ Cond.instanceMethod q.1 ∈ tables_1
theorem lw_p0 : lw_okq (⟨"DebtorViews$History", "row", "(I)LDebtorViews$State;"⟩, 3) := ⟨⟨by decide +kernel, by decide +kernel⟩, List.mem_of_getElem? (i := 234) (by decide +kernel), List.mem_of_getElem? (i := 312) (by decide +kernel), List.mem_of_getElem? (i := 313) (by decide +kernel)⟩
theorem lw_p1 : lw_okq (⟨"DebtorViews$State", "snapshot", "(I)LDebtorViews$Books;"⟩, 3) := ⟨⟨by decide +kernel, by decide +kernel⟩, List.mem_of_getElem? (i := 81) (by decide +kernel), List.mem_of_getElem? (i := 347) (by decide +kernel), List.mem_of_getElem? (i := 348) (by decide +kernel)⟩
theorem lw_p2 : lw_okq (⟨"DebtorViews$Reader", "readKind", "()I"⟩, 8) := ⟨⟨by decide +kernel, by decide +kernel⟩, List.mem_of_getElem? (i := 28) (by decide +kernel), List.mem_of_getElem? (i := 374) (by decide +kernel), List.mem_of_getElem? (i := 375) (by decide +kernel)⟩
theorem lw_p3 : lw_okq (⟨"DebtorViews$Reader", "advance", "()V"⟩, 8) := ⟨⟨by decide +kernel, by decide +kernel⟩, List.mem_of_getElem? (i := 28) (by decide +kernel), List.mem_of_getElem? (i := 378) (by decide +kernel), List.mem_of_getElem? (i := 379) (by decide +kernel)⟩
theorem lw_p4 : lw_okq (⟨"DebtorViews$Reader", "tokenIs", "(Ljava/lang/String;)Z"⟩, 8) := ⟨⟨by decide +kernel, by decide +kernel⟩, List.mem_of_getElem? (i := 28) (by decide +kernel), List.mem_of_getElem? (i := 403) (by decide +kernel), List.mem_of_getElem? (i := 404) (by decide +kernel)⟩
theorem lw_p5 : lw_okq (⟨"DebtorViews$Reader", "refuse", "()V"⟩, 8) := ⟨⟨by decide +kernel, by decide +kernel⟩, List.mem_of_getElem? (i := 28) (by decide +kernel), List.mem_of_getElem? (i := 455) (by decide +kernel), List.mem_of_getElem? (i := 456) (by decide +kernel)⟩
theorem lw_p6 : lw_okq (⟨"DebtorViews$Reader", "readTable", "()I"⟩, 8) := ⟨⟨by decide +kernel, by decide +kernel⟩, List.mem_of_getElem? (i := 28) (by decide +kernel), List.mem_of_getElem? (i := 459) (by decide +kernel), List.mem_of_getElem? (i := 460) (by decide +kernel)⟩
theorem lw_p7 : lw_okq (⟨"DebtorViews$Reader", "readNumber", "()I"⟩, 8) := ⟨⟨by decide +kernel, by decide +kernel⟩, List.mem_of_getElem? (i := 28) (by decide +kernel), List.mem_of_getElem? (i := 465) (by decide +kernel), List.mem_of_getElem? (i := 466) (by decide +kernel)⟩
theorem lw_p8 : lw_okq (⟨"DebtorViews$Reader", "readDash", "()V"⟩, 8) := ⟨⟨by decide +kernel, by decide +kernel⟩, List.mem_of_getElem? (i := 28) (by decide +kernel), List.mem_of_getElem? (i := 469) (by decide +kernel), List.mem_of_getElem? (i := 470) (by decide +kernel)⟩
theorem lw_p9 : lw_okq (⟨"DebtorViews$Reader", "readEnd", "()V"⟩, 8) := ⟨⟨by decide +kernel, by decide +kernel⟩, List.mem_of_getElem? (i := 28) (by decide +kernel), List.mem_of_getElem? (i := 474) (by decide +kernel), List.mem_of_getElem? (i := 475) (by decide +kernel)⟩
theorem lw_p10 : lw_okq (⟨"DebtorViews$Books", "noteParts", "(LDebtorViews$View;LDebtorViews$View;LDebtorViews$View;)V"⟩, 12) := ⟨⟨by decide +kernel, by decide +kernel⟩, List.mem_of_getElem? (i := 87) (by decide +kernel), List.mem_of_getElem? (i := 500) (by decide +kernel), List.mem_of_getElem? (i := 501) (by decide +kernel)⟩
theorem lw_p11 : lw_okq (⟨"DebtorViews$Books", "belongs", "(LDebtorViews$View;I)Z"⟩, 12) := ⟨⟨by decide +kernel, by decide +kernel⟩, List.mem_of_getElem? (i := 87) (by decide +kernel), List.mem_of_getElem? (i := 541) (by decide +kernel), List.mem_of_getElem? (i := 542) (by decide +kernel)⟩
theorem lw_p12 : lw_okq (⟨"DebtorViews$Books", "payDebt", "(LDebtorViews$View;I)I"⟩, 12) := ⟨⟨by decide +kernel, by decide +kernel⟩, List.mem_of_getElem? (i := 87) (by decide +kernel), List.mem_of_getElem? (i := 627) (by decide +kernel), List.mem_of_getElem? (i := 628) (by decide +kernel)⟩
theorem lw_p13 : lw_okq (⟨"DebtorViews$Books", "payArrears", "(LDebtorViews$View;I)I"⟩, 12) := ⟨⟨by decide +kernel, by decide +kernel⟩, List.mem_of_getElem? (i := 87) (by decide +kernel), List.mem_of_getElem? (i := 635) (by decide +kernel), List.mem_of_getElem? (i := 636) (by decide +kernel)⟩
theorem lw_p14 : lw_okq (⟨"DebtorViews$Books", "noteRanks", "()V"⟩, 12) := ⟨⟨by decide +kernel, by decide +kernel⟩, List.mem_of_getElem? (i := 87) (by decide +kernel), List.mem_of_getElem? (i := 647) (by decide +kernel), List.mem_of_getElem? (i := 648) (by decide +kernel)⟩
theorem lw_p15 : lw_okq (⟨"DebtorViews$Books", "rank", "(LDebtorViews$View;)I"⟩, 12) := ⟨⟨by decide +kernel, by decide +kernel⟩, List.mem_of_getElem? (i := 87) (by decide +kernel), List.mem_of_getElem? (i := 651) (by decide +kernel), List.mem_of_getElem? (i := 652) (by decide +kernel)⟩
def lw_privs_1 : List (MethodName × Nat) := [(⟨"DebtorViews$History", "row", "(I)LDebtorViews$State;"⟩, 3), (⟨"DebtorViews$State", "snapshot", "(I)LDebtorViews$Books;"⟩, 3), (⟨"DebtorViews$Reader", "readKind", "()I"⟩, 8), (⟨"DebtorViews$Reader", "advance", "()V"⟩, 8), (⟨"DebtorViews$Reader", "tokenIs", "(Ljava/lang/String;)Z"⟩, 8), (⟨"DebtorViews$Reader", "refuse", "()V"⟩, 8), (⟨"DebtorViews$Reader", "readTable", "()I"⟩, 8), (⟨"DebtorViews$Reader", "readNumber", "()I"⟩, 8), (⟨"DebtorViews$Reader", "readDash", "()V"⟩, 8), (⟨"DebtorViews$Reader", "readEnd", "()V"⟩, 8), (⟨"DebtorViews$Books", "noteParts", "(LDebtorViews$View;LDebtorViews$View;LDebtorViews$View;)V"⟩, 12), (⟨"DebtorViews$Books", "belongs", "(LDebtorViews$View;I)Z"⟩, 12), (⟨"DebtorViews$Books", "payDebt", "(LDebtorViews$View;I)I"⟩, 12), (⟨"DebtorViews$Books", "payArrears", "(LDebtorViews$View;I)I"⟩, 12), (⟨"DebtorViews$Books", "noteRanks", "()V"⟩, 12), (⟨"DebtorViews$Books", "rank", "(LDebtorViews$View;)I"⟩, 12)]
theorem lw_r1 : ∀ q ∈ lw_privs_1, lw_okq q := List.forall_mem_cons.mpr ⟨lw_p0, List.forall_mem_cons.mpr ⟨lw_p1, List.forall_mem_cons.mpr ⟨lw_p2, List.forall_mem_cons.mpr ⟨lw_p3, List.forall_mem_cons.mpr ⟨lw_p4, List.forall_mem_cons.mpr ⟨lw_p5, List.forall_mem_cons.mpr ⟨lw_p6, List.forall_mem_cons.mpr ⟨lw_p7, List.forall_mem_cons.mpr ⟨lw_p8, List.forall_mem_cons.mpr ⟨lw_p9, List.forall_mem_cons.mpr ⟨lw_p10, List.forall_mem_cons.mpr ⟨lw_p11, List.forall_mem_cons.mpr ⟨lw_p12, List.forall_mem_cons.mpr ⟨lw_p13, List.forall_mem_cons.mpr ⟨lw_p14, List.forall_mem_cons.mpr ⟨lw_p15, fun _ h => absurd h List.not_mem_nil⟩⟩⟩⟩⟩⟩⟩⟩⟩⟩⟩⟩⟩⟩⟩⟩
theorem lw_p16 : lw_okq (⟨"DebtorViews$Books", "nextOf", "(I)I"⟩, 12) := ⟨⟨by decide +kernel, by decide +kernel⟩, List.mem_of_getElem? (i := 87) (by decide +kernel), List.mem_of_getElem? (i := 656) (by decide +kernel), List.mem_of_getElem? (i := 657) (by decide +kernel)⟩
theorem lw_p17 : lw_okq (⟨"DebtorViews$Replay", "askTables", "(LDebtorViews$Books;)V"⟩, 2) := ⟨⟨by decide +kernel, by decide +kernel⟩, List.mem_of_getElem? (i := 254) (by decide +kernel), List.mem_of_getElem? (i := 773) (by decide +kernel), List.mem_of_getElem? (i := 774) (by decide +kernel)⟩
theorem lw_p18 : lw_okq (⟨"DebtorViews$Replay", "difference", "(LDebtorViews$View;)I"⟩, 2) := ⟨⟨by decide +kernel, by decide +kernel⟩, List.mem_of_getElem? (i := 254) (by decide +kernel), List.mem_of_getElem? (i := 778) (by decide +kernel), List.mem_of_getElem? (i := 779) (by decide +kernel)⟩
theorem lw_p19 : lw_okq (⟨"DebtorViews$Replay", "answer", "(I)I"⟩, 2) := ⟨⟨by decide +kernel, by decide +kernel⟩, List.mem_of_getElem? (i := 254) (by decide +kernel), List.mem_of_getElem? (i := 782) (by decide +kernel), List.mem_of_getElem? (i := 783) (by decide +kernel)⟩
theorem lw_p20 : lw_okq (⟨"DebtorViews$Replay", "begin", "(LDebtorViews$Books;)V"⟩, 2) := ⟨⟨by decide +kernel, by decide +kernel⟩, List.mem_of_getElem? (i := 254) (by decide +kernel), List.mem_of_getElem? (i := 811) (by decide +kernel), List.mem_of_getElem? (i := 812) (by decide +kernel)⟩
theorem lw_p21 : lw_okq (⟨"DebtorViews$Replay", "step", "(LDebtorViews$Books;I)V"⟩, 2) := ⟨⟨by decide +kernel, by decide +kernel⟩, List.mem_of_getElem? (i := 254) (by decide +kernel), List.mem_of_getElem? (i := 815) (by decide +kernel), List.mem_of_getElem? (i := 816) (by decide +kernel)⟩
theorem lw_p22 : lw_okq (⟨"DebtorViewsModel", "notes", "()V"⟩, 18) := ⟨⟨by decide +kernel, by decide +kernel⟩, List.mem_of_getElem? (i := 852) (by decide +kernel), List.mem_of_getElem? (i := 922) (by decide +kernel), List.mem_of_getElem? (i := 923) (by decide +kernel)⟩
theorem lw_p23 : lw_okq (⟨"DebtorViewsModel", "isView", "(I)Z"⟩, 18) := ⟨⟨by decide +kernel, by decide +kernel⟩, List.mem_of_getElem? (i := 852) (by decide +kernel), List.mem_of_getElem? (i := 933) (by decide +kernel), List.mem_of_getElem? (i := 934) (by decide +kernel)⟩
theorem lw_p24 : lw_okq (⟨"DebtorViewsModel", "isMadeOf", "(II)Z"⟩, 18) := ⟨⟨by decide +kernel, by decide +kernel⟩, List.mem_of_getElem? (i := 852) (by decide +kernel), List.mem_of_getElem? (i := 940) (by decide +kernel), List.mem_of_getElem? (i := 941) (by decide +kernel)⟩
theorem lw_p25 : lw_okq (⟨"DebtorViewsModel", "views", "()I"⟩, 18) := ⟨⟨by decide +kernel, by decide +kernel⟩, List.mem_of_getElem? (i := 852) (by decide +kernel), List.mem_of_getElem? (i := 945) (by decide +kernel), List.mem_of_getElem? (i := 946) (by decide +kernel)⟩
theorem lw_p26 : lw_okq (⟨"DebtorViewsModel", "isBankrupt", "(I)Z"⟩, 18) := ⟨⟨by decide +kernel, by decide +kernel⟩, List.mem_of_getElem? (i := 852) (by decide +kernel), List.mem_of_getElem? (i := 964) (by decide +kernel), List.mem_of_getElem? (i := 965) (by decide +kernel)⟩
theorem lw_p27 : lw_okq (⟨"DebtorViewsModel", "arrears", "(I)I"⟩, 18) := ⟨⟨by decide +kernel, by decide +kernel⟩, List.mem_of_getElem? (i := 852) (by decide +kernel), List.mem_of_getElem? (i := 968) (by decide +kernel), List.mem_of_getElem? (i := 969) (by decide +kernel)⟩
theorem lw_p28 : lw_okq (⟨"DebtorViewsModel", "concerned", "(I)I"⟩, 18) := ⟨⟨by decide +kernel, by decide +kernel⟩, List.mem_of_getElem? (i := 852) (by decide +kernel), List.mem_of_getElem? (i := 972) (by decide +kernel), List.mem_of_getElem? (i := 973) (by decide +kernel)⟩
theorem lw_p29 : lw_okq (⟨"DebtorViewsModel", "pays", "(II)I"⟩, 18) := ⟨⟨by decide +kernel, by decide +kernel⟩, List.mem_of_getElem? (i := 852) (by decide +kernel), List.mem_of_getElem? (i := 983) (by decide +kernel), List.mem_of_getElem? (i := 984) (by decide +kernel)⟩
theorem lw_p30 : lw_okq (⟨"DebtorViewsModel", "spends", "(II)V"⟩, 18) := ⟨⟨by decide +kernel, by decide +kernel⟩, List.mem_of_getElem? (i := 852) (by decide +kernel), List.mem_of_getElem? (i := 987) (by decide +kernel), List.mem_of_getElem? (i := 988) (by decide +kernel)⟩
theorem lw_p31 : lw_okq (⟨"DebtorViewsModel", "priceOf", "(I)I"⟩, 18) := ⟨⟨by decide +kernel, by decide +kernel⟩, List.mem_of_getElem? (i := 852) (by decide +kernel), List.mem_of_getElem? (i := 991) (by decide +kernel), List.mem_of_getElem? (i := 992) (by decide +kernel)⟩
def lw_privs_2 : List (MethodName × Nat) := [(⟨"DebtorViews$Books", "nextOf", "(I)I"⟩, 12), (⟨"DebtorViews$Replay", "askTables", "(LDebtorViews$Books;)V"⟩, 2), (⟨"DebtorViews$Replay", "difference", "(LDebtorViews$View;)I"⟩, 2), (⟨"DebtorViews$Replay", "answer", "(I)I"⟩, 2), (⟨"DebtorViews$Replay", "begin", "(LDebtorViews$Books;)V"⟩, 2), (⟨"DebtorViews$Replay", "step", "(LDebtorViews$Books;I)V"⟩, 2), (⟨"DebtorViewsModel", "notes", "()V"⟩, 18), (⟨"DebtorViewsModel", "isView", "(I)Z"⟩, 18), (⟨"DebtorViewsModel", "isMadeOf", "(II)Z"⟩, 18), (⟨"DebtorViewsModel", "views", "()I"⟩, 18), (⟨"DebtorViewsModel", "isBankrupt", "(I)Z"⟩, 18), (⟨"DebtorViewsModel", "arrears", "(I)I"⟩, 18), (⟨"DebtorViewsModel", "concerned", "(I)I"⟩, 18), (⟨"DebtorViewsModel", "pays", "(II)I"⟩, 18), (⟨"DebtorViewsModel", "spends", "(II)V"⟩, 18), (⟨"DebtorViewsModel", "priceOf", "(I)I"⟩, 18)]
theorem lw_r2 : ∀ q ∈ lw_privs_2, lw_okq q := List.forall_mem_cons.mpr ⟨lw_p16, List.forall_mem_cons.mpr ⟨lw_p17, List.forall_mem_cons.mpr ⟨lw_p18, List.forall_mem_cons.mpr ⟨lw_p19, List.forall_mem_cons.mpr ⟨lw_p20, List.forall_mem_cons.mpr ⟨lw_p21, List.forall_mem_cons.mpr ⟨lw_p22, List.forall_mem_cons.mpr ⟨lw_p23, List.forall_mem_cons.mpr ⟨lw_p24, List.forall_mem_cons.mpr ⟨lw_p25, List.forall_mem_cons.mpr ⟨lw_p26, List.forall_mem_cons.mpr ⟨lw_p27, List.forall_mem_cons.mpr ⟨lw_p28, List.forall_mem_cons.mpr ⟨lw_p29, List.forall_mem_cons.mpr ⟨lw_p30, List.forall_mem_cons.mpr ⟨lw_p31, fun _ h => absurd h List.not_mem_nil⟩⟩⟩⟩⟩⟩⟩⟩⟩⟩⟩⟩⟩⟩⟩⟩
theorem lw_p32 : lw_okq (⟨"DebtorViewsModel", "arrear", "(II)I"⟩, 18) := ⟨⟨by decide +kernel, by decide +kernel⟩, List.mem_of_getElem? (i := 852) (by decide +kernel), List.mem_of_getElem? (i := 995) (by decide +kernel), List.mem_of_getElem? (i := 996) (by decide +kernel)⟩
theorem lw_p33 : lw_okq (⟨"DebtorViewsModel", "laysTurns", "(I)I"⟩, 18) := ⟨⟨by decide +kernel, by decide +kernel⟩, List.mem_of_getElem? (i := 852) (by decide +kernel), List.mem_of_getElem? (i := 1003) (by decide +kernel), List.mem_of_getElem? (i := 1004) (by decide +kernel)⟩
theorem lw_p34 : lw_okq (⟨"DebtorViewsModel", "isBehind", "(III)Z"⟩, 18) := ⟨⟨by decide +kernel, by decide +kernel⟩, List.mem_of_getElem? (i := 852) (by decide +kernel), List.mem_of_getElem? (i := 1007) (by decide +kernel), List.mem_of_getElem? (i := 1008) (by decide +kernel)⟩
theorem lw_p35 : lw_okq (⟨"DebtorViewsModel", "need", "(I)I"⟩, 18) := ⟨⟨by decide +kernel, by decide +kernel⟩, List.mem_of_getElem? (i := 852) (by decide +kernel), List.mem_of_getElem? (i := 1011) (by decide +kernel), List.mem_of_getElem? (i := 1012) (by decide +kernel)⟩
theorem lw_p36 : lw_okq (⟨"DebtorViewsModel", "keysOf", "(I)I"⟩, 18) := ⟨⟨by decide +kernel, by decide +kernel⟩, List.mem_of_getElem? (i := 852) (by decide +kernel), List.mem_of_getElem? (i := 1019) (by decide +kernel), List.mem_of_getElem? (i := 1020) (by decide +kernel)⟩
theorem lw_p37 : lw_okq (⟨"DebtorViewsModel", "reads", "()V"⟩, 18) := ⟨⟨by decide +kernel, by decide +kernel⟩, List.mem_of_getElem? (i := 852) (by decide +kernel), List.mem_of_getElem? (i := 1050) (by decide +kernel), List.mem_of_getElem? (i := 1051) (by decide +kernel)⟩
theorem lw_p38 : lw_okq (⟨"DebtorViewsModel", "word", "()I"⟩, 18) := ⟨⟨by decide +kernel, by decide +kernel⟩, List.mem_of_getElem? (i := 852) (by decide +kernel), List.mem_of_getElem? (i := 1054) (by decide +kernel), List.mem_of_getElem? (i := 1055) (by decide +kernel)⟩
theorem lw_p39 : lw_okq (⟨"DebtorViewsModel", "begins", "()V"⟩, 18) := ⟨⟨by decide +kernel, by decide +kernel⟩, List.mem_of_getElem? (i := 852) (by decide +kernel), List.mem_of_getElem? (i := 1058) (by decide +kernel), List.mem_of_getElem? (i := 1059) (by decide +kernel)⟩
theorem lw_p40 : lw_okq (⟨"DebtorViewsModel", "next", "()I"⟩, 18) := ⟨⟨by decide +kernel, by decide +kernel⟩, List.mem_of_getElem? (i := 852) (by decide +kernel), List.mem_of_getElem? (i := 1062) (by decide +kernel), List.mem_of_getElem? (i := 1063) (by decide +kernel)⟩
theorem lw_p41 : lw_okq (⟨"DebtorViewsModel", "kindOf", "(I)I"⟩, 18) := ⟨⟨by decide +kernel, by decide +kernel⟩, List.mem_of_getElem? (i := 852) (by decide +kernel), List.mem_of_getElem? (i := 1066) (by decide +kernel), List.mem_of_getElem? (i := 1067) (by decide +kernel)⟩
theorem lw_p42 : lw_okq (⟨"DebtorViewsModel", "allows", "(Z)V"⟩, 18) := ⟨⟨by decide +kernel, by decide +kernel⟩, List.mem_of_getElem? (i := 852) (by decide +kernel), List.mem_of_getElem? (i := 1070) (by decide +kernel), List.mem_of_getElem? (i := 1071) (by decide +kernel)⟩
theorem lw_p43 : lw_okq (⟨"DebtorViewsModel", "readsTable", "()V"⟩, 18) := ⟨⟨by decide +kernel, by decide +kernel⟩, List.mem_of_getElem? (i := 852) (by decide +kernel), List.mem_of_getElem? (i := 1074) (by decide +kernel), List.mem_of_getElem? (i := 1075) (by decide +kernel)⟩
theorem lw_p44 : lw_okq (⟨"DebtorViewsModel", "number", "()I"⟩, 18) := ⟨⟨by decide +kernel, by decide +kernel⟩, List.mem_of_getElem? (i := 852) (by decide +kernel), List.mem_of_getElem? (i := 1078) (by decide +kernel), List.mem_of_getElem? (i := 1079) (by decide +kernel)⟩
theorem lw_p45 : lw_okq (⟨"DebtorViewsModel", "sign", "(I)V"⟩, 18) := ⟨⟨by decide +kernel, by decide +kernel⟩, List.mem_of_getElem? (i := 852) (by decide +kernel), List.mem_of_getElem? (i := 1082) (by decide +kernel), List.mem_of_getElem? (i := 1083) (by decide +kernel)⟩
theorem lw_p46 : lw_okq (⟨"DebtorViewsModel", "setOf", "(I)I"⟩, 18) := ⟨⟨by decide +kernel, by decide +kernel⟩, List.mem_of_getElem? (i := 852) (by decide +kernel), List.mem_of_getElem? (i := 1090) (by decide +kernel), List.mem_of_getElem? (i := 1091) (by decide +kernel)⟩
theorem lw_p47 : lw_okq (⟨"DebtorViewsModel", "debts", "()I"⟩, 18) := ⟨⟨by decide +kernel, by decide +kernel⟩, List.mem_of_getElem? (i := 852) (by decide +kernel), List.mem_of_getElem? (i := 1094) (by decide +kernel), List.mem_of_getElem? (i := 1095) (by decide +kernel)⟩
def lw_privs_3 : List (MethodName × Nat) := [(⟨"DebtorViewsModel", "arrear", "(II)I"⟩, 18), (⟨"DebtorViewsModel", "laysTurns", "(I)I"⟩, 18), (⟨"DebtorViewsModel", "isBehind", "(III)Z"⟩, 18), (⟨"DebtorViewsModel", "need", "(I)I"⟩, 18), (⟨"DebtorViewsModel", "keysOf", "(I)I"⟩, 18), (⟨"DebtorViewsModel", "reads", "()V"⟩, 18), (⟨"DebtorViewsModel", "word", "()I"⟩, 18), (⟨"DebtorViewsModel", "begins", "()V"⟩, 18), (⟨"DebtorViewsModel", "next", "()I"⟩, 18), (⟨"DebtorViewsModel", "kindOf", "(I)I"⟩, 18), (⟨"DebtorViewsModel", "allows", "(Z)V"⟩, 18), (⟨"DebtorViewsModel", "readsTable", "()V"⟩, 18), (⟨"DebtorViewsModel", "number", "()I"⟩, 18), (⟨"DebtorViewsModel", "sign", "(I)V"⟩, 18), (⟨"DebtorViewsModel", "setOf", "(I)I"⟩, 18), (⟨"DebtorViewsModel", "debts", "()I"⟩, 18)]
theorem lw_r3 : ∀ q ∈ lw_privs_3, lw_okq q := List.forall_mem_cons.mpr ⟨lw_p32, List.forall_mem_cons.mpr ⟨lw_p33, List.forall_mem_cons.mpr ⟨lw_p34, List.forall_mem_cons.mpr ⟨lw_p35, List.forall_mem_cons.mpr ⟨lw_p36, List.forall_mem_cons.mpr ⟨lw_p37, List.forall_mem_cons.mpr ⟨lw_p38, List.forall_mem_cons.mpr ⟨lw_p39, List.forall_mem_cons.mpr ⟨lw_p40, List.forall_mem_cons.mpr ⟨lw_p41, List.forall_mem_cons.mpr ⟨lw_p42, List.forall_mem_cons.mpr ⟨lw_p43, List.forall_mem_cons.mpr ⟨lw_p44, List.forall_mem_cons.mpr ⟨lw_p45, List.forall_mem_cons.mpr ⟨lw_p46, List.forall_mem_cons.mpr ⟨lw_p47, fun _ h => absurd h List.not_mem_nil⟩⟩⟩⟩⟩⟩⟩⟩⟩⟩⟩⟩⟩⟩⟩⟩
theorem lw_p48 : lw_okq (⟨"DebtorViewsModel", "isPlace", "(I)Z"⟩, 18) := ⟨⟨by decide +kernel, by decide +kernel⟩, List.mem_of_getElem? (i := 852) (by decide +kernel), List.mem_of_getElem? (i := 1102) (by decide +kernel), List.mem_of_getElem? (i := 1103) (by decide +kernel)⟩
theorem lw_p49 : lw_okq (⟨"DebtorViewsModel", "lays", "(I)V"⟩, 18) := ⟨⟨by decide +kernel, by decide +kernel⟩, List.mem_of_getElem? (i := 852) (by decide +kernel), List.mem_of_getElem? (i := 1106) (by decide +kernel), List.mem_of_getElem? (i := 1107) (by decide +kernel)⟩
theorem lw_p50 : lw_okq (⟨"DebtorViewsModel", "answerAt", "(II)I"⟩, 18) := ⟨⟨by decide +kernel, by decide +kernel⟩, List.mem_of_getElem? (i := 852) (by decide +kernel), List.mem_of_getElem? (i := 1123) (by decide +kernel), List.mem_of_getElem? (i := 1124) (by decide +kernel)⟩
theorem lw_p51 : lw_okq (⟨"DebtorViewsModel", "answerOf", "(I)I"⟩, 18) := ⟨⟨by decide +kernel, by decide +kernel⟩, List.mem_of_getElem? (i := 852) (by decide +kernel), List.mem_of_getElem? (i := 1127) (by decide +kernel), List.mem_of_getElem? (i := 1128) (by decide +kernel)⟩
def lw_privs_4 : List (MethodName × Nat) := [(⟨"DebtorViewsModel", "isPlace", "(I)Z"⟩, 18), (⟨"DebtorViewsModel", "lays", "(I)V"⟩, 18), (⟨"DebtorViewsModel", "answerAt", "(II)I"⟩, 18), (⟨"DebtorViewsModel", "answerOf", "(I)I"⟩, 18)]
theorem lw_r4 : ∀ q ∈ lw_privs_4, lw_okq q := List.forall_mem_cons.mpr ⟨lw_p48, List.forall_mem_cons.mpr ⟨lw_p49, List.forall_mem_cons.mpr ⟨lw_p50, List.forall_mem_cons.mpr ⟨lw_p51, fun _ h => absurd h List.not_mem_nil⟩⟩⟩⟩
def lw_privs : List (MethodName × Nat) := lw_privs_1 ++ (lw_privs_2 ++ (lw_privs_3 ++ (lw_privs_4)))
def lw_tbl : List Cond := k2_sels lw_privs ++ tables_1
theorem lw_privs_ok : ∀ q ∈ lw_privs, lw_okq q := by
  show ∀ q ∈ lw_privs_1 ++ (lw_privs_2 ++ (lw_privs_3 ++ (lw_privs_4))), lw_okq q
  exact List.forall_mem_append.mpr ⟨lw_r1, List.forall_mem_append.mpr ⟨lw_r2, List.forall_mem_append.mpr ⟨lw_r3, lw_r4⟩⟩⟩
end
section
theorem goodIn_r {big : List Cond} (ws : List Cond) (ps : List Nat) (hp : ws = ps.filterMap (fun i => big[i]?)) (h : ws.all goodWord = true) : GoodIn big ws := by
  intro w hw
  have h1 := List.all_eq_true.mp h w hw
  rw [hp] at hw
  obtain ⟨i, -, hi⟩ := List.mem_filterMap.mp hw
  have hm : w ∈ big := by first | exact List.mem_of_getElem? hi | exact List.getElem?_mem hi
  exact ⟨hm, good_of_word h1⟩
theorem goodIn_app {big a b : List Cond} (ha : GoodIn big a) (hb : GoodIn big b) : GoodIn big (a ++ b) := fun w h => (List.mem_append.mp h).elim (ha w) (hb w)
theorem goodIn_ca {big a b : List Cond} {c : Cond} (ha : GoodIn big (c :: a)) (hb : GoodIn big b) : GoodIn big (c :: (a ++ b)) := fun w h => (List.mem_cons.mp h).elim (fun e => ha w (List.mem_cons.mpr (Or.inl e))) (fun h => (List.mem_append.mp h).elim (fun h => ha w (List.mem_cons.mpr (Or.inr h))) (hb w))
theorem goodIn_sub {big ws : List Cond} (hm : ∀ w ∈ ws, w ∈ big) (h : ws.all goodWord = true) : GoodIn big ws := fun w hw => ⟨hm w hw, good_of_word (List.all_eq_true.mp h w hw)⟩
def RX0 : String := "DebtorViews$Books"
def TX0 : u_T := fun k => match k with
  | 0 => ("DebtorViews$Books", "log", "LDebtorViews$Log;", true)
  | 1 => ("DebtorViews$Books", "views", "[LDebtorViews$View;", true)
  | 2 => ("DebtorViews$Books", "settings", "[I", true)
  | 3 => ("DebtorViews$Books", "ranks", "[I", true)
  | 4 => ("DebtorViews$Books", "defined", "I", false)
  | 5 => ("DebtorViews$Books", "treasury", "I", false)
  | 6 => ("DebtorViews$Books", "received", "I", false)
  | 7 => ("DebtorViews$Books", "spentOnDebts", "I", false)
  | 8 => ("DebtorViews$Books", "spentOnArrears", "I", false)
  | 9 => ("DebtorViews$Books", "spentOnFounding", "I", false)
  | 10 => ("DebtorViews$Books", "writtenOff", "I", false)
  | _ => ("DebtorViews$Books", "ticks", "I", false)
def tyX0 : Nat → FieldType := fun k => match k with
  | 0 => .object "DebtorViews$Log"
  | 1 => .array (.object "DebtorViews$View")
  | 2 => .array .int
  | 3 => .array .int
  | 4 => .int
  | 5 => .int
  | 6 => .int
  | 7 => .int
  | 8 => .int
  | 9 => .int
  | 10 => .int
  | _ => .int
abbrev wsX00 : List Cond := u_ws RX0 TX0 12
theorem nmX0 : ∀ a, a < 12 → ∀ b, b < 12 → a ≠ b → (TX0 a).2.1 ≠ (TX0 b).2.1 := by decide +kernel
theorem tyX0_ok : ∀ k, k < 12 → parseFieldDescriptor (TX0 k).2.2.1 = some (tyX0 k) := by decide +kernel
abbrev cX0_init : ByteArray := prog_2_method_1_code
def yX0_init : MethodName := ⟨RX0, "<init>", "()V"⟩
abbrev cX0_setting : ByteArray := prog_2_method_2_code
def yX0_setting : MethodName := ⟨RX0, "setting", "(I)I"⟩
abbrev cX0_changeSetting : ByteArray := prog_2_method_3_code
def yX0_changeSetting : MethodName := ⟨RX0, "changeSetting", "(II)V"⟩
abbrev cX0_find : ByteArray := prog_2_method_4_code
def yX0_find : MethodName := ⟨RX0, "find", "(I)LDebtorViews$View;"⟩
abbrev cX0_allows : ByteArray := prog_2_method_5_code
def yX0_allows : MethodName := ⟨RX0, "allows", "(III)Z"⟩
abbrev cX0_addView : ByteArray := prog_2_method_6_code
def yX0_addView : MethodName := ⟨RX0, "addView", "(IIII)I"⟩
abbrev cX0_noteParts : ByteArray := prog_2_method_7_code
def yX0_noteParts : MethodName := ⟨RX0, "noteParts", "(LDebtorViews$View;LDebtorViews$View;LDebtorViews$View;)V"⟩
abbrev cX0_isPart : ByteArray := prog_2_method_8_code
def yX0_isPart : MethodName := ⟨RX0, "isPart", "(I)Z"⟩
abbrev cX0_setOf : ByteArray := prog_2_method_9_code
def yX0_setOf : MethodName := ⟨RX0, "setOf", "(I)I"⟩
abbrev cX0_belongs : ByteArray := prog_2_method_10_code
def yX0_belongs : MethodName := ⟨RX0, "belongs", "(LDebtorViews$View;I)Z"⟩
abbrev cX0_concernedBy : ByteArray := prog_2_method_11_code
def yX0_concernedBy : MethodName := ⟨RX0, "concernedBy", "(I)I"⟩
abbrev cX0_arrears : ByteArray := prog_2_method_12_code
def yX0_arrears : MethodName := ⟨RX0, "arrears", "(LDebtorViews$View;)I"⟩
abbrev cX0_priceOfArrear : ByteArray := prog_2_method_13_code
def yX0_priceOfArrear : MethodName := ⟨RX0, "priceOfArrear", "(LDebtorViews$View;)I"⟩
abbrev cX0_need : ByteArray := prog_2_method_14_code
def yX0_need : MethodName := ⟨RX0, "need", "(LDebtorViews$View;)I"⟩
abbrev cX0_interest : ByteArray := prog_2_method_15_code
def yX0_interest : MethodName := ⟨RX0, "interest", "(LDebtorViews$View;)I"⟩
abbrev cX0_foundingCost : ByteArray := prog_2_method_16_code
def yX0_foundingCost : MethodName := ⟨RX0, "foundingCost", "(LDebtorViews$View;)I"⟩
abbrev cX0_allDebts : ByteArray := prog_2_method_17_code
def yX0_allDebts : MethodName := ⟨RX0, "allDebts", "()I"⟩
abbrev cX0_allNeeds : ByteArray := prog_2_method_18_code
def yX0_allNeeds : MethodName := ⟨RX0, "allNeeds", "()I"⟩
abbrev cX0_receive : ByteArray := prog_2_method_19_code
def yX0_receive : MethodName := ⟨RX0, "receive", "(I)V"⟩
abbrev cX0_passTick : ByteArray := prog_2_method_20_code
def yX0_passTick : MethodName := ⟨RX0, "passTick", "()I"⟩
abbrev cX0_spend : ByteArray := prog_2_method_21_code
def yX0_spend : MethodName := ⟨RX0, "spend", "(LDebtorViews$View;I)V"⟩
abbrev cX0_payOne : ByteArray := prog_2_method_22_code
def yX0_payOne : MethodName := ⟨RX0, "payOne", "(LDebtorViews$View;I)I"⟩
abbrev cX0_payDebt : ByteArray := prog_2_method_23_code
def yX0_payDebt : MethodName := ⟨RX0, "payDebt", "(LDebtorViews$View;I)I"⟩
abbrev cX0_payArrears : ByteArray := prog_2_method_24_code
def yX0_payArrears : MethodName := ⟨RX0, "payArrears", "(LDebtorViews$View;I)I"⟩
abbrev cX0_payEvery : ByteArray := prog_2_method_25_code
def yX0_payEvery : MethodName := ⟨RX0, "payEvery", "()I"⟩
abbrev cX0_noteRanks : ByteArray := prog_2_method_26_code
def yX0_noteRanks : MethodName := ⟨RX0, "noteRanks", "()V"⟩
abbrev cX0_rank : ByteArray := prog_2_method_27_code
def yX0_rank : MethodName := ⟨RX0, "rank", "(LDebtorViews$View;)I"⟩
abbrev cX0_nextOf : ByteArray := prog_2_method_28_code
def yX0_nextOf : MethodName := ⟨RX0, "nextOf", "(I)I"⟩
abbrev cX0_foundAnew : ByteArray := prog_2_method_29_code
def yX0_foundAnew : MethodName := ⟨RX0, "foundAnew", "(LDebtorViews$View;I)V"⟩
abbrev cX0_copyFrom : ByteArray := prog_2_method_30_code
def yX0_copyFrom : MethodName := ⟨RX0, "copyFrom", "(LDebtorViews$Books;)V"⟩
def RX1 : String := "DebtorViews$History"
def TX1 : u_T := fun k => match k with
  | 0 => ("DebtorViews$History", "states", "[LDebtorViews$State;", true)
  | 1 => ("DebtorViews$History", "oldest", "I", false)
  | _ => ("DebtorViews$History", "size", "I", false)
def tyX1 : Nat → FieldType := fun k => match k with
  | 0 => .array (.object "DebtorViews$State")
  | 1 => .int
  | _ => .int
abbrev wsX10 : List Cond := u_ws RX1 TX1 3
theorem nmX1 : ∀ a, a < 3 → ∀ b, b < 3 → a ≠ b → (TX1 a).2.1 ≠ (TX1 b).2.1 := by decide +kernel
theorem tyX1_ok : ∀ k, k < 3 → parseFieldDescriptor (TX1 k).2.2.1 = some (tyX1 k) := by decide +kernel
abbrev cX1_init : ByteArray := prog_3_method_1_code
def yX1_init : MethodName := ⟨RX1, "<init>", "()V"⟩
abbrev cX1_record : ByteArray := prog_3_method_2_code
def yX1_record : MethodName := ⟨RX1, "record", "(LDebtorViews$State;)V"⟩
abbrev cX1_removeLatestInto : ByteArray := prog_3_method_3_code
def yX1_removeLatestInto : MethodName := ⟨RX1, "removeLatestInto", "(LDebtorViews$State;)V"⟩
abbrev cX1_row : ByteArray := prog_3_method_4_code
def yX1_row : MethodName := ⟨RX1, "row", "(I)LDebtorViews$State;"⟩
def RX2 : String := "DebtorViews$Log"
def TX2 : u_T := fun k => match k with
  | 0 => ("DebtorViews$Log", "cells", "[I", true)
  | 1 => ("DebtorViews$Log", "values", "[I", true)
  | _ => ("DebtorViews$Log", "end", "I", false)
def tyX2 : Nat → FieldType := fun k => match k with
  | 0 => .array .int
  | 1 => .array .int
  | _ => .int
abbrev wsX20 : List Cond := u_ws RX2 TX2 3
theorem nmX2 : ∀ a, a < 3 → ∀ b, b < 3 → a ≠ b → (TX2 a).2.1 ≠ (TX2 b).2.1 := by decide +kernel
theorem tyX2_ok : ∀ k, k < 3 → parseFieldDescriptor (TX2 k).2.2.1 = some (tyX2 k) := by decide +kernel
abbrev cX2_init : ByteArray := prog_4_method_1_code
def yX2_init : MethodName := ⟨RX2, "<init>", "()V"⟩
abbrev cX2_isFull : ByteArray := prog_4_method_2_code
def yX2_isFull : MethodName := ⟨RX2, "isFull", "()Z"⟩
abbrev cX2_add : ByteArray := prog_4_method_3_code
def yX2_add : MethodName := ⟨RX2, "add", "(II)I"⟩
abbrev cX2_cell : ByteArray := prog_4_method_4_code
def yX2_cell : MethodName := ⟨RX2, "cell", "(I)I"⟩
abbrev cX2_newValue : ByteArray := prog_4_method_5_code
def yX2_newValue : MethodName := ⟨RX2, "newValue", "(I)I"⟩
abbrev cX2_valueAt : ByteArray := prog_4_method_6_code
def yX2_valueAt : MethodName := ⟨RX2, "valueAt", "(II)I"⟩
abbrev cX2_copyFrom : ByteArray := prog_4_method_7_code
def yX2_copyFrom : MethodName := ⟨RX2, "copyFrom", "(LDebtorViews$Log;)V"⟩
def RX3 : String := "DebtorViews$Reader"
def TX3 : u_T := fun k => match k with
  | 0 => ("DebtorViews$Reader", "text", "LDebtorViews$Text;", true)
  | 1 => ("DebtorViews$Reader", "start", "I", false)
  | 2 => ("DebtorViews$Reader", "next", "I", false)
  | 3 => ("DebtorViews$Reader", "fault", "I", false)
  | 4 => ("DebtorViews$Reader", "kind", "I", false)
  | 5 => ("DebtorViews$Reader", "table", "I", false)
  | 6 => ("DebtorViews$Reader", "first", "I", false)
  | _ => ("DebtorViews$Reader", "last", "I", false)
def tyX3 : Nat → FieldType := fun k => match k with
  | 0 => .object "DebtorViews$Text"
  | 1 => .int
  | 2 => .int
  | 3 => .int
  | 4 => .int
  | 5 => .int
  | 6 => .int
  | _ => .int
abbrev wsX30 : List Cond := u_ws RX3 TX3 8
theorem nmX3 : ∀ a, a < 8 → ∀ b, b < 8 → a ≠ b → (TX3 a).2.1 ≠ (TX3 b).2.1 := by decide +kernel
theorem tyX3_ok : ∀ k, k < 8 → parseFieldDescriptor (TX3 k).2.2.1 = some (tyX3 k) := by decide +kernel
abbrev cX3_init : ByteArray := prog_5_method_1_code
def yX3_init : MethodName := ⟨RX3, "<init>", "()V"⟩
abbrev cX3_read : ByteArray := prog_5_method_2_code
def yX3_read : MethodName := ⟨RX3, "read", "()V"⟩
abbrev cX3_hasFault : ByteArray := prog_5_method_3_code
def yX3_hasFault : MethodName := ⟨RX3, "hasFault", "()Z"⟩
abbrev cX3_readKind : ByteArray := prog_5_method_4_code
def yX3_readKind : MethodName := ⟨RX3, "readKind", "()I"⟩
abbrev cX3_readTable : ByteArray := prog_5_method_5_code
def yX3_readTable : MethodName := ⟨RX3, "readTable", "()I"⟩
abbrev cX3_readNumber : ByteArray := prog_5_method_6_code
def yX3_readNumber : MethodName := ⟨RX3, "readNumber", "()I"⟩
abbrev cX3_readDash : ByteArray := prog_5_method_7_code
def yX3_readDash : MethodName := ⟨RX3, "readDash", "()V"⟩
abbrev cX3_readEnd : ByteArray := prog_5_method_8_code
def yX3_readEnd : MethodName := ⟨RX3, "readEnd", "()V"⟩
abbrev cX3_advance : ByteArray := prog_5_method_9_code
def yX3_advance : MethodName := ⟨RX3, "advance", "()V"⟩
abbrev cX3_refuse : ByteArray := prog_5_method_10_code
def yX3_refuse : MethodName := ⟨RX3, "refuse", "()V"⟩
abbrev cX3_tokenIs : ByteArray := prog_5_method_11_code
def yX3_tokenIs : MethodName := ⟨RX3, "tokenIs", "(Ljava/lang/String;)Z"⟩
abbrev cX3_word : ByteArray := prog_5_method_12_code
def yX3_word : MethodName := ⟨RX3, "word", "(I)Ljava/lang/String;"⟩
abbrev cX3_isSameRun : ByteArray := prog_5_method_13_code
def yX3_isSameRun : MethodName := ⟨RX3, "isSameRun", "(II)Z"⟩
abbrev cX3_isLetter : ByteArray := prog_5_method_14_code
def yX3_isLetter : MethodName := ⟨RX3, "isLetter", "(I)Z"⟩
abbrev cX3_isDigit : ByteArray := prog_5_method_15_code
def yX3_isDigit : MethodName := ⟨RX3, "isDigit", "(I)Z"⟩
def RX4 : String := "DebtorViews$Replay"
def TX4 : u_T := fun k => match k with
  | 0 => ("DebtorViews$Replay", "tables", "LDebtorViews$Tables;", true)
  | _ => ("DebtorViews$Replay", "answers", "[I", true)
def tyX4 : Nat → FieldType := fun k => match k with
  | 0 => .object "DebtorViews$Tables"
  | _ => .array .int
abbrev wsX40 : List Cond := u_ws RX4 TX4 2
theorem nmX4 : ∀ a, a < 2 → ∀ b, b < 2 → a ≠ b → (TX4 a).2.1 ≠ (TX4 b).2.1 := by decide +kernel
theorem tyX4_ok : ∀ k, k < 2 → parseFieldDescriptor (TX4 k).2.2.1 = some (tyX4 k) := by decide +kernel
abbrev cX4_init : ByteArray := prog_6_method_1_code
def yX4_init : MethodName := ⟨RX4, "<init>", "()V"⟩
abbrev cX4_answerByTables : ByteArray := prog_6_method_2_code
def yX4_answerByTables : MethodName := ⟨RX4, "answerByTables", "(LDebtorViews$Books;II)I"⟩
abbrev cX4_answerByChanges : ByteArray := prog_6_method_3_code
def yX4_answerByChanges : MethodName := ⟨RX4, "answerByChanges", "(LDebtorViews$Books;II)I"⟩
abbrev cX4_lastTurn : ByteArray := prog_6_method_4_code
def yX4_lastTurn : MethodName := ⟨RX4, "lastTurn", "(LDebtorViews$Books;I)I"⟩
abbrev cX4_begin : ByteArray := prog_6_method_5_code
def yX4_begin : MethodName := ⟨RX4, "begin", "(LDebtorViews$Books;)V"⟩
abbrev cX4_askTables : ByteArray := prog_6_method_6_code
def yX4_askTables : MethodName := ⟨RX4, "askTables", "(LDebtorViews$Books;)V"⟩
abbrev cX4_step : ByteArray := prog_6_method_7_code
def yX4_step : MethodName := ⟨RX4, "step", "(LDebtorViews$Books;I)V"⟩
abbrev cX4_difference : ByteArray := prog_6_method_8_code
def yX4_difference : MethodName := ⟨RX4, "difference", "(LDebtorViews$View;)I"⟩
abbrev cX4_answer : ByteArray := prog_6_method_9_code
def yX4_answer : MethodName := ⟨RX4, "answer", "(I)I"⟩
def RX5 : String := "DebtorViews$State"
def TX5 : u_T := fun k => match k with
  | 0 => ("DebtorViews$State", "books", "LDebtorViews$Books;", true)
  | 1 => ("DebtorViews$State", "slots", "[LDebtorViews$Books;", true)
  | _ => ("DebtorViews$State", "taken", "[Z", true)
def tyX5 : Nat → FieldType := fun k => match k with
  | 0 => .object "DebtorViews$Books"
  | 1 => .array (.object "DebtorViews$Books")
  | _ => .array .boolean
abbrev wsX50 : List Cond := u_ws RX5 TX5 3
theorem nmX5 : ∀ a, a < 3 → ∀ b, b < 3 → a ≠ b → (TX5 a).2.1 ≠ (TX5 b).2.1 := by decide +kernel
theorem tyX5_ok : ∀ k, k < 3 → parseFieldDescriptor (TX5 k).2.2.1 = some (tyX5 k) := by decide +kernel
abbrev cX5_init : ByteArray := prog_7_method_1_code
def yX5_init : MethodName := ⟨RX5, "<init>", "()V"⟩
abbrev cX5_isTaken : ByteArray := prog_7_method_2_code
def yX5_isTaken : MethodName := ⟨RX5, "isTaken", "(I)Z"⟩
abbrev cX5_snapshots : ByteArray := prog_7_method_3_code
def yX5_snapshots : MethodName := ⟨RX5, "snapshots", "()I"⟩
abbrev cX5_keepIn : ByteArray := prog_7_method_4_code
def yX5_keepIn : MethodName := ⟨RX5, "keepIn", "(ILDebtorViews$Books;)V"⟩
abbrev cX5_bringBack : ByteArray := prog_7_method_5_code
def yX5_bringBack : MethodName := ⟨RX5, "bringBack", "(I)V"⟩
abbrev cX5_snapshot : ByteArray := prog_7_method_6_code
def yX5_snapshot : MethodName := ⟨RX5, "snapshot", "(I)LDebtorViews$Books;"⟩
abbrev cX5_copyFrom : ByteArray := prog_7_method_7_code
def yX5_copyFrom : MethodName := ⟨RX5, "copyFrom", "(LDebtorViews$State;)V"⟩
def RX6 : String := "DebtorViews$Tables"
def TX6 : u_T := fun k => match k with
  | _ => ("DebtorViews$Tables", "values", "[I", true)
def tyX6 : Nat → FieldType := fun k => match k with
  | _ => .array .int
abbrev wsX60 : List Cond := u_ws RX6 TX6 1
theorem nmX6 : ∀ a, a < 1 → ∀ b, b < 1 → a ≠ b → (TX6 a).2.1 ≠ (TX6 b).2.1 := by decide +kernel
theorem tyX6_ok : ∀ k, k < 1 → parseFieldDescriptor (TX6 k).2.2.1 = some (tyX6 k) := by decide +kernel
abbrev cX6_init : ByteArray := prog_8_method_1_code
def yX6_init : MethodName := ⟨RX6, "<init>", "()V"⟩
abbrev cX6_empty : ByteArray := prog_8_method_2_code
def yX6_empty : MethodName := ⟨RX6, "empty", "()V"⟩
abbrev cX6_assign : ByteArray := prog_8_method_3_code
def yX6_assign : MethodName := ⟨RX6, "assign", "(II)V"⟩
abbrev cX6_at : ByteArray := prog_8_method_4_code
def yX6_at : MethodName := ⟨RX6, "at", "(I)I"⟩
def RX7 : String := "DebtorViews$Text"
def TX7 : u_T := fun k => match k with
  | 0 => ("DebtorViews$Text", "characters", "[I", true)
  | _ => ("DebtorViews$Text", "length", "I", false)
def tyX7 : Nat → FieldType := fun k => match k with
  | 0 => .array .int
  | _ => .int
abbrev wsX70 : List Cond := u_ws RX7 TX7 2
theorem nmX7 : ∀ a, a < 2 → ∀ b, b < 2 → a ≠ b → (TX7 a).2.1 ≠ (TX7 b).2.1 := by decide +kernel
theorem tyX7_ok : ∀ k, k < 2 → parseFieldDescriptor (TX7 k).2.2.1 = some (tyX7 k) := by decide +kernel
abbrev cX7_init : ByteArray := prog_9_method_1_code
def yX7_init : MethodName := ⟨RX7, "<init>", "()V"⟩
abbrev cX7_isFull : ByteArray := prog_9_method_2_code
def yX7_isFull : MethodName := ⟨RX7, "isFull", "()Z"⟩
abbrev cX7_add : ByteArray := prog_9_method_3_code
def yX7_add : MethodName := ⟨RX7, "add", "(I)V"⟩
abbrev cX7_empty : ByteArray := prog_9_method_4_code
def yX7_empty : MethodName := ⟨RX7, "empty", "()V"⟩
abbrev cX7_at : ByteArray := prog_9_method_5_code
def yX7_at : MethodName := ⟨RX7, "at", "(I)I"⟩
def RX8 : String := "DebtorViews$View"
def TX8 : u_T := fun k => match k with
  | 0 => ("DebtorViews$View", "exists", "Z", false)
  | 1 => ("DebtorViews$View", "kind", "I", false)
  | 2 => ("DebtorViews$View", "table", "I", false)
  | 3 => ("DebtorViews$View", "first", "I", false)
  | 4 => ("DebtorViews$View", "last", "I", false)
  | 5 => ("DebtorViews$View", "cells", "I", false)
  | 6 => ("DebtorViews$View", "keys", "I", false)
  | 7 => ("DebtorViews$View", "bankrupt", "Z", false)
  | 8 => ("DebtorViews$View", "place", "I", false)
  | 9 => ("DebtorViews$View", "debt", "I", false)
  | _ => ("DebtorViews$View", "spent", "I", false)
def tyX8 : Nat → FieldType := fun k => match k with
  | 0 => .boolean
  | 1 => .int
  | 2 => .int
  | 3 => .int
  | 4 => .int
  | 5 => .int
  | 6 => .int
  | 7 => .boolean
  | 8 => .int
  | 9 => .int
  | _ => .int
abbrev wsX80 : List Cond := u_ws RX8 TX8 11
theorem nmX8 : ∀ a, a < 11 → ∀ b, b < 11 → a ≠ b → (TX8 a).2.1 ≠ (TX8 b).2.1 := by decide +kernel
theorem tyX8_ok : ∀ k, k < 11 → parseFieldDescriptor (TX8 k).2.2.1 = some (tyX8 k) := by decide +kernel
abbrev cX8_init : ByteArray := prog_10_method_1_code
def yX8_init : MethodName := ⟨RX8, "<init>", "()V"⟩
abbrev cX8_pose : ByteArray := prog_10_method_2_code
def yX8_pose : MethodName := ⟨RX8, "pose", "(IIII)V"⟩
abbrev cX8_concern : ByteArray := prog_10_method_3_code
def yX8_concern : MethodName := ⟨RX8, "concern", "(II)V"⟩
abbrev cX8_begin : ByteArray := prog_10_method_4_code
def yX8_begin : MethodName := ⟨RX8, "begin", "(I)V"⟩
abbrev cX8_standAnew : ByteArray := prog_10_method_5_code
def yX8_standAnew : MethodName := ⟨RX8, "standAnew", "(I)V"⟩
abbrev cX8_fail : ByteArray := prog_10_method_6_code
def yX8_fail : MethodName := ⟨RX8, "fail", "()V"⟩
abbrev cX8_hasTable : ByteArray := prog_10_method_7_code
def yX8_hasTable : MethodName := ⟨RX8, "hasTable", "()Z"⟩
abbrev cX8_isMadeOf : ByteArray := prog_10_method_8_code
def yX8_isMadeOf : MethodName := ⟨RX8, "isMadeOf", "(I)Z"⟩
abbrev cX8_isConcernedBy : ByteArray := prog_10_method_9_code
def yX8_isConcernedBy : MethodName := ⟨RX8, "isConcernedBy", "(I)Z"⟩
abbrev cX8_rangeCells : ByteArray := prog_10_method_10_code
def yX8_rangeCells : MethodName := ⟨RX8, "rangeCells", "()I"⟩
abbrev cX8_rangeKeys : ByteArray := prog_10_method_11_code
def yX8_rangeKeys : MethodName := ⟨RX8, "rangeKeys", "()I"⟩
abbrev cX8_rangeAnswer : ByteArray := prog_10_method_12_code
def yX8_rangeAnswer : MethodName := ⟨RX8, "rangeAnswer", "(LDebtorViews$Tables;)I"⟩
abbrev cX8_revisedAnswer : ByteArray := prog_10_method_13_code
def yX8_revisedAnswer : MethodName := ⟨RX8, "revisedAnswer", "(IIILDebtorViews$Tables;)I"⟩
abbrev cX8_copyFrom : ByteArray := prog_10_method_14_code
def yX8_copyFrom : MethodName := ⟨RX8, "copyFrom", "(LDebtorViews$View;)V"⟩
def RX9 : String := "DebtorViews"
def TX9 : u_T := fun k => match k with
  | 0 => ("DebtorViews", "reader", "LDebtorViews$Reader;", true)
  | 1 => ("DebtorViews", "state", "LDebtorViews$State;", true)
  | 2 => ("DebtorViews", "history", "LDebtorViews$History;", true)
  | 3 => ("DebtorViews", "replay", "LDebtorViews$Replay;", true)
  | _ => ("DebtorViews", "forecast", "LDebtorViews$Books;", true)
def tyX9 : Nat → FieldType := fun k => match k with
  | 0 => .object "DebtorViews$Reader"
  | 1 => .object "DebtorViews$State"
  | 2 => .object "DebtorViews$History"
  | 3 => .object "DebtorViews$Replay"
  | _ => .object "DebtorViews$Books"
abbrev wsX90 : List Cond := u_ws RX9 TX9 5
theorem nmX9 : ∀ a, a < 5 → ∀ b, b < 5 → a ≠ b → (TX9 a).2.1 ≠ (TX9 b).2.1 := by decide +kernel
theorem tyX9_ok : ∀ k, k < 5 → parseFieldDescriptor (TX9 k).2.2.1 = some (tyX9 k) := by decide +kernel
abbrev cX9_init : ByteArray := prog_1_method_1_code
def yX9_init : MethodName := ⟨RX9, "<init>", "()V"⟩
abbrev cX9_put : ByteArray := prog_1_method_2_code
def yX9_put : MethodName := ⟨RX9, "put", "(III)I"⟩
abbrev cX9_define : ByteArray := prog_1_method_3_code
def yX9_define : MethodName := ⟨RX9, "define", "()I"⟩
abbrev cX9_drop : ByteArray := prog_1_method_4_code
def yX9_drop : MethodName := ⟨RX9, "drop", "(I)I"⟩
abbrev cX9_set : ByteArray := prog_1_method_5_code
def yX9_set : MethodName := ⟨RX9, "set", "(II)I"⟩
abbrev cX9_grant : ByteArray := prog_1_method_6_code
def yX9_grant : MethodName := ⟨RX9, "grant", "(I)I"⟩
abbrev cX9_tick : ByteArray := prog_1_method_7_code
def yX9_tick : MethodName := ⟨RX9, "tick", "()I"⟩
abbrev cX9_pay : ByteArray := prog_1_method_8_code
def yX9_pay : MethodName := ⟨RX9, "pay", "(II)I"⟩
abbrev cX9_payAll : ByteArray := prog_1_method_9_code
def yX9_payAll : MethodName := ⟨RX9, "payAll", "()I"⟩
abbrev cX9_found : ByteArray := prog_1_method_10_code
def yX9_found : MethodName := ⟨RX9, "found", "(I)I"⟩
abbrev cX9_take : ByteArray := prog_1_method_11_code
def yX9_take : MethodName := ⟨RX9, "take", "(I)I"⟩
abbrev cX9_restore : ByteArray := prog_1_method_12_code
def yX9_restore : MethodName := ⟨RX9, "restore", "(I)I"⟩
abbrev cX9_undo : ByteArray := prog_1_method_13_code
def yX9_undo : MethodName := ⟨RX9, "undo", "()I"⟩
abbrev cX9_append : ByteArray := prog_1_method_14_code
def yX9_append : MethodName := ⟨RX9, "append", "(I)I"⟩
abbrev cX9_clearText : ByteArray := prog_1_method_15_code
def yX9_clearText : MethodName := ⟨RX9, "clearText", "()I"⟩
abbrev cX9_count : ByteArray := prog_1_method_16_code
def yX9_count : MethodName := ⟨RX9, "count", "(I)I"⟩
abbrev cX9_value : ByteArray := prog_1_method_17_code
def yX9_value : MethodName := ⟨RX9, "value", "(III)I"⟩
abbrev cX9_change : ByteArray := prog_1_method_18_code
def yX9_change : MethodName := ⟨RX9, "change", "(II)I"⟩
abbrev cX9_view : ByteArray := prog_1_method_19_code
def yX9_view : MethodName := ⟨RX9, "view", "(II)I"⟩
abbrev cX9_kept : ByteArray := prog_1_method_20_code
def yX9_kept : MethodName := ⟨RX9, "kept", "(I)I"⟩
abbrev cX9_ask : ByteArray := prog_1_method_21_code
def yX9_ask : MethodName := ⟨RX9, "ask", "(III)I"⟩
abbrev cX9_ruin : ByteArray := prog_1_method_22_code
def yX9_ruin : MethodName := ⟨RX9, "ruin", "(I)I"⟩
abbrev cX9_settled : ByteArray := prog_1_method_23_code
def yX9_settled : MethodName := ⟨RX9, "settled", "(II)I"⟩
abbrev cX9_needed : ByteArray := prog_1_method_24_code
def yX9_needed : MethodName := ⟨RX9, "needed", "()I"⟩
abbrev cX9_since : ByteArray := prog_1_method_25_code
def yX9_since : MethodName := ⟨RX9, "since", "(I)I"⟩
abbrev cX9_isCell : ByteArray := prog_1_method_26_code
def yX9_isCell : MethodName := ⟨RX9, "isCell", "(II)Z"⟩
abbrev cX9_cellOf : ByteArray := prog_1_method_27_code
def yX9_cellOf : MethodName := ⟨RX9, "cellOf", "(II)I"⟩
abbrev cX9_isSetting : ByteArray := prog_1_method_28_code
def yX9_isSetting : MethodName := ⟨RX9, "isSetting", "(II)Z"⟩
abbrev cX9_amount : ByteArray := prog_1_method_29_code
def yX9_amount : MethodName := ⟨RX9, "amount", "(I)I"⟩
abbrev cX9_presence : ByteArray := prog_1_method_30_code
def yX9_presence : MethodName := ⟨RX9, "presence", "(I)I"⟩
def RX10 : String := "DebtorViewsModel"
def TX10 : u_T := fun k => match k with
  | 0 => ("DebtorViewsModel", "now", "[I", true)
  | 1 => ("DebtorViewsModel", "past", "[I", true)
  | 2 => ("DebtorViewsModel", "states", "I", false)
  | 3 => ("DebtorViewsModel", "text", "[I", true)
  | 4 => ("DebtorViewsModel", "letters", "I", false)
  | 5 => ("DebtorViewsModel", "tables", "[I", true)
  | 6 => ("DebtorViewsModel", "answers", "[I", true)
  | 7 => ("DebtorViewsModel", "keys", "[I", true)
  | 8 => ("DebtorViewsModel", "turns", "[I", true)
  | 9 => ("DebtorViewsModel", "onDebt", "I", false)
  | 10 => ("DebtorViewsModel", "onArrears", "I", false)
  | 11 => ("DebtorViewsModel", "at", "I", false)
  | 12 => ("DebtorViewsModel", "from", "I", false)
  | 13 => ("DebtorViewsModel", "fault", "I", false)
  | 14 => ("DebtorViewsModel", "kind", "I", false)
  | 15 => ("DebtorViewsModel", "table", "I", false)
  | 16 => ("DebtorViewsModel", "first", "I", false)
  | _ => ("DebtorViewsModel", "last", "I", false)
def tyX10 : Nat → FieldType := fun k => match k with
  | 0 => .array .int
  | 1 => .array .int
  | 2 => .int
  | 3 => .array .int
  | 4 => .int
  | 5 => .array .int
  | 6 => .array .int
  | 7 => .array .int
  | 8 => .array .int
  | 9 => .int
  | 10 => .int
  | 11 => .int
  | 12 => .int
  | 13 => .int
  | 14 => .int
  | 15 => .int
  | 16 => .int
  | _ => .int
abbrev wsX100 : List Cond := u_ws RX10 TX10 18
theorem nmX10 : ∀ a, a < 18 → ∀ b, b < 18 → a ≠ b → (TX10 a).2.1 ≠ (TX10 b).2.1 := by decide +kernel
theorem tyX10_ok : ∀ k, k < 18 → parseFieldDescriptor (TX10 k).2.2.1 = some (tyX10 k) := by decide +kernel
abbrev cX10_init : ByteArray := prog_12_method_1_code
def yX10_init : MethodName := ⟨RX10, "<init>", "()V"⟩
abbrev cX10_in : ByteArray := prog_12_method_2_code
def yX10_in : MethodName := ⟨RX10, "in", "(III)Z"⟩
abbrev cX10_has : ByteArray := prog_12_method_3_code
def yX10_has : MethodName := ⟨RX10, "has", "(II)Z"⟩
abbrev cX10_v : ByteArray := prog_12_method_4_code
def yX10_v : MethodName := ⟨RX10, "v", "(II)I"⟩
abbrev cX10_isView : ByteArray := prog_12_method_5_code
def yX10_isView : MethodName := ⟨RX10, "isView", "(I)Z"⟩
abbrev cX10_isBankrupt : ByteArray := prog_12_method_6_code
def yX10_isBankrupt : MethodName := ⟨RX10, "isBankrupt", "(I)Z"⟩
abbrev cX10_notes : ByteArray := prog_12_method_7_code
def yX10_notes : MethodName := ⟨RX10, "notes", "()V"⟩
abbrev cX10_c : ByteArray := prog_12_method_8_code
def yX10_c : MethodName := ⟨RX10, "c", "(II)I"⟩
abbrev cX10_lays : ByteArray := prog_12_method_9_code
def yX10_lays : MethodName := ⟨RX10, "lays", "(I)V"⟩
abbrev cX10_answerOf : ByteArray := prog_12_method_10_code
def yX10_answerOf : MethodName := ⟨RX10, "answerOf", "(I)I"⟩
abbrev cX10_answerAt : ByteArray := prog_12_method_11_code
def yX10_answerAt : MethodName := ⟨RX10, "answerAt", "(II)I"⟩
abbrev cX10_concerned : ByteArray := prog_12_method_12_code
def yX10_concerned : MethodName := ⟨RX10, "concerned", "(I)I"⟩
abbrev cX10_arrear : ByteArray := prog_12_method_13_code
def yX10_arrear : MethodName := ⟨RX10, "arrear", "(II)I"⟩
abbrev cX10_arrears : ByteArray := prog_12_method_14_code
def yX10_arrears : MethodName := ⟨RX10, "arrears", "(I)I"⟩
abbrev cX10_priceOf : ByteArray := prog_12_method_15_code
def yX10_priceOf : MethodName := ⟨RX10, "priceOf", "(I)I"⟩
abbrev cX10_need : ByteArray := prog_12_method_16_code
def yX10_need : MethodName := ⟨RX10, "need", "(I)I"⟩
abbrev cX10_keysOf : ByteArray := prog_12_method_17_code
def yX10_keysOf : MethodName := ⟨RX10, "keysOf", "(I)I"⟩
abbrev cX10_put : ByteArray := prog_12_method_18_code
def yX10_put : MethodName := ⟨RX10, "put", "(III)I"⟩
abbrev cX10_isMadeOf : ByteArray := prog_12_method_19_code
def yX10_isMadeOf : MethodName := ⟨RX10, "isMadeOf", "(II)Z"⟩
abbrev cX10_views : ByteArray := prog_12_method_20_code
def yX10_views : MethodName := ⟨RX10, "views", "()I"⟩
abbrev cX10_drop : ByteArray := prog_12_method_21_code
def yX10_drop : MethodName := ⟨RX10, "drop", "(I)I"⟩
abbrev cX10_isSetting : ByteArray := prog_12_method_22_code
def yX10_isSetting : MethodName := ⟨RX10, "isSetting", "(II)Z"⟩
abbrev cX10_set : ByteArray := prog_12_method_23_code
def yX10_set : MethodName := ⟨RX10, "set", "(II)I"⟩
abbrev cX10_grant : ByteArray := prog_12_method_24_code
def yX10_grant : MethodName := ⟨RX10, "grant", "(I)I"⟩
abbrev cX10_tick : ByteArray := prog_12_method_25_code
def yX10_tick : MethodName := ⟨RX10, "tick", "()I"⟩
abbrev cX10_spends : ByteArray := prog_12_method_26_code
def yX10_spends : MethodName := ⟨RX10, "spends", "(II)V"⟩
abbrev cX10_pays : ByteArray := prog_12_method_27_code
def yX10_pays : MethodName := ⟨RX10, "pays", "(II)I"⟩
abbrev cX10_pay : ByteArray := prog_12_method_28_code
def yX10_pay : MethodName := ⟨RX10, "pay", "(II)I"⟩
abbrev cX10_isBehind : ByteArray := prog_12_method_29_code
def yX10_isBehind : MethodName := ⟨RX10, "isBehind", "(III)Z"⟩
abbrev cX10_laysTurns : ByteArray := prog_12_method_30_code
def yX10_laysTurns : MethodName := ⟨RX10, "laysTurns", "(I)I"⟩
abbrev cX10_payAll : ByteArray := prog_12_method_31_code
def yX10_payAll : MethodName := ⟨RX10, "payAll", "()I"⟩
abbrev cX10_found : ByteArray := prog_12_method_32_code
def yX10_found : MethodName := ⟨RX10, "found", "(I)I"⟩
abbrev cX10_slotAt : ByteArray := prog_12_method_33_code
def yX10_slotAt : MethodName := ⟨RX10, "slotAt", "(I)I"⟩
abbrev cX10_take : ByteArray := prog_12_method_34_code
def yX10_take : MethodName := ⟨RX10, "take", "(I)I"⟩
abbrev cX10_restore : ByteArray := prog_12_method_35_code
def yX10_restore : MethodName := ⟨RX10, "restore", "(I)I"⟩
abbrev cX10_undo : ByteArray := prog_12_method_36_code
def yX10_undo : MethodName := ⟨RX10, "undo", "()I"⟩
abbrev cX10_append : ByteArray := prog_12_method_37_code
def yX10_append : MethodName := ⟨RX10, "append", "(I)I"⟩
abbrev cX10_clearText : ByteArray := prog_12_method_38_code
def yX10_clearText : MethodName := ⟨RX10, "clearText", "()I"⟩
abbrev cX10_next : ByteArray := prog_12_method_39_code
def yX10_next : MethodName := ⟨RX10, "next", "()I"⟩
abbrev cX10_begins : ByteArray := prog_12_method_40_code
def yX10_begins : MethodName := ⟨RX10, "begins", "()V"⟩
abbrev cX10_allows : ByteArray := prog_12_method_41_code
def yX10_allows : MethodName := ⟨RX10, "allows", "(Z)V"⟩
abbrev cX10_word : ByteArray := prog_12_method_42_code
def yX10_word : MethodName := ⟨RX10, "word", "()I"⟩
abbrev cX10_number : ByteArray := prog_12_method_43_code
def yX10_number : MethodName := ⟨RX10, "number", "()I"⟩
abbrev cX10_sign : ByteArray := prog_12_method_44_code
def yX10_sign : MethodName := ⟨RX10, "sign", "(I)V"⟩
abbrev cX10_readsTable : ByteArray := prog_12_method_45_code
def yX10_readsTable : MethodName := ⟨RX10, "readsTable", "()V"⟩
abbrev cX10_kindOf : ByteArray := prog_12_method_46_code
def yX10_kindOf : MethodName := ⟨RX10, "kindOf", "(I)I"⟩
abbrev cX10_reads : ByteArray := prog_12_method_47_code
def yX10_reads : MethodName := ⟨RX10, "reads", "()V"⟩
abbrev cX10_define : ByteArray := prog_12_method_48_code
def yX10_define : MethodName := ⟨RX10, "define", "()I"⟩
abbrev cX10_setOf : ByteArray := prog_12_method_49_code
def yX10_setOf : MethodName := ⟨RX10, "setOf", "(I)I"⟩
abbrev cX10_debts : ByteArray := prog_12_method_50_code
def yX10_debts : MethodName := ⟨RX10, "debts", "()I"⟩
abbrev cX10_count : ByteArray := prog_12_method_51_code
def yX10_count : MethodName := ⟨RX10, "count", "(I)I"⟩
abbrev cX10_isPlace : ByteArray := prog_12_method_52_code
def yX10_isPlace : MethodName := ⟨RX10, "isPlace", "(I)Z"⟩
abbrev cX10_value : ByteArray := prog_12_method_53_code
def yX10_value : MethodName := ⟨RX10, "value", "(III)I"⟩
abbrev cX10_change : ByteArray := prog_12_method_54_code
def yX10_change : MethodName := ⟨RX10, "change", "(II)I"⟩
abbrev cX10_view : ByteArray := prog_12_method_55_code
def yX10_view : MethodName := ⟨RX10, "view", "(II)I"⟩
abbrev cX10_kept : ByteArray := prog_12_method_56_code
def yX10_kept : MethodName := ⟨RX10, "kept", "(I)I"⟩
abbrev cX10_ask : ByteArray := prog_12_method_57_code
def yX10_ask : MethodName := ⟨RX10, "ask", "(III)I"⟩
abbrev cX10_ruin : ByteArray := prog_12_method_58_code
def yX10_ruin : MethodName := ⟨RX10, "ruin", "(I)I"⟩
abbrev cX10_settled : ByteArray := prog_12_method_59_code
def yX10_settled : MethodName := ⟨RX10, "settled", "(II)I"⟩
abbrev cX10_needed : ByteArray := prog_12_method_60_code
def yX10_needed : MethodName := ⟨RX10, "needed", "()I"⟩
abbrev cX10_since : ByteArray := prog_12_method_61_code
def yX10_since : MethodName := ⟨RX10, "since", "(I)I"⟩
def RJ6 : String := "java/lang/Integer"
def TJ6 : u_T := fun k => match k with
  | _ => ("", "", "", false)
def tyJ6 : Nat → FieldType := fun k => match k with
  | _ => .int
abbrev wsJ60 : List Cond := u_ws RJ6 TJ6 0
theorem nmJ6 : ∀ a, a < 0 → ∀ b, b < 0 → a ≠ b → (TJ6 a).2.1 ≠ (TJ6 b).2.1 := by decide +kernel
theorem tyJ6_ok : ∀ k, k < 0 → parseFieldDescriptor (TJ6 k).2.2.1 = some (tyJ6 k) := by decide +kernel
abbrev cJ6_bitCount_0f7a4 : ByteArray := prog_13_method_49_code
def yJ6_bitCount_0f7a4 : MethodName := ⟨RJ6, "bitCount", "(I)I"⟩
def RJ9 : String := "java/lang/Math"
def TJ9 : u_T := fun k => match k with
  | _ => ("", "", "", false)
def tyJ9 : Nat → FieldType := fun k => match k with
  | _ => .int
abbrev wsJ90 : List Cond := u_ws RJ9 TJ9 0
theorem nmJ9 : ∀ a, a < 0 → ∀ b, b < 0 → a ≠ b → (TJ9 a).2.1 ≠ (TJ9 b).2.1 := by decide +kernel
theorem tyJ9_ok : ∀ k, k < 0 → parseFieldDescriptor (TJ9 k).2.2.1 = some (tyJ9 k) := by decide +kernel
abbrev cJ9_max_7cf53 : ByteArray := prog_14_method_65_code
def yJ9_max_7cf53 : MethodName := ⟨RJ9, "max", "(II)I"⟩
abbrev cJ9_min_7cf53 : ByteArray := prog_14_method_69_code
def yJ9_min_7cf53 : MethodName := ⟨RJ9, "min", "(II)I"⟩
def RJ0 : String := "java/lang/String"
def TJ0 : u_T := fun k => match k with
  | _ => ("", "", "", false)
def tyJ0 : Nat → FieldType := fun k => match k with
  | _ => .int
abbrev wsJ00 : List Cond := u_ws RJ0 TJ0 0
theorem nmJ0 : ∀ a, a < 0 → ∀ b, b < 0 → a ≠ b → (TJ0 a).2.1 ≠ (TJ0 b).2.1 := by decide +kernel
theorem tyJ0_ok : ∀ k, k < 0 → parseFieldDescriptor (TJ0 k).2.2.1 = some (tyJ0 k) := by decide +kernel
abbrev cJ0_length_8abf5 : ByteArray := prog_15_method_54_code
def yJ0_length_8abf5 : MethodName := ⟨RJ0, "length", "()I"⟩
abbrev cJ0_charAt_5068e : ByteArray := prog_15_method_56_code
def yJ0_charAt_5068e : MethodName := ⟨RJ0, "charAt", "(I)C"⟩
abbrev cJ0_coder_7d493 : ByteArray := prog_15_method_152_code
def yJ0_coder_7d493 : MethodName := ⟨RJ0, "coder", "()B"⟩
abbrev cJ0_isLatin1_aae02 : ByteArray := prog_15_method_154_code
def yJ0_isLatin1_aae02 : MethodName := ⟨RJ0, "isLatin1", "()Z"⟩
abbrev cJ0_checkIndex_df160 : ByteArray := prog_15_method_155_code
def yJ0_checkIndex_df160 : MethodName := ⟨RJ0, "checkIndex", "(II)V"⟩
def RJ1 : String := "java/lang/StringLatin1"
def TJ1 : u_T := fun k => match k with
  | _ => ("", "", "", false)
def tyJ1 : Nat → FieldType := fun k => match k with
  | _ => .int
abbrev wsJ10 : List Cond := u_ws RJ1 TJ1 0
theorem nmJ1 : ∀ a, a < 0 → ∀ b, b < 0 → a ≠ b → (TJ1 a).2.1 ≠ (TJ1 b).2.1 := by decide +kernel
theorem tyJ1_ok : ∀ k, k < 0 → parseFieldDescriptor (TJ1 k).2.2.1 = some (tyJ1 k) := by decide +kernel
abbrev cJ1_charAt_3b067 : ByteArray := prog_16_method_2_code
def yJ1_charAt_3b067 : MethodName := ⟨RJ1, "charAt", "([BI)C"⟩
def RJ2 : String := "java/lang/StringUTF16"
def TJ2 : u_T := fun k => match k with
  | _ => ("", "", "", false)
def tyJ2 : Nat → FieldType := fun k => match k with
  | _ => .int
abbrev wsJ20 : List Cond := u_ws RJ2 TJ2 0
theorem nmJ2 : ∀ a, a < 0 → ∀ b, b < 0 → a ≠ b → (TJ2 a).2.1 ≠ (TJ2 b).2.1 := by decide +kernel
theorem tyJ2_ok : ∀ k, k < 0 → parseFieldDescriptor (TJ2 k).2.2.1 = some (tyJ2 k) := by decide +kernel
abbrev cJ2_getChar_3b067 : ByteArray := prog_17_method_5_code
def yJ2_getChar_3b067 : MethodName := ⟨RJ2, "getChar", "([BI)C"⟩
abbrev cJ2_length_9d52b : ByteArray := prog_17_method_6_code
def yJ2_length_9d52b : MethodName := ⟨RJ2, "length", "([B)I"⟩
abbrev cJ2_charAt_3b067 : ByteArray := prog_17_method_83_code
def yJ2_charAt_3b067 : MethodName := ⟨RJ2, "charAt", "([BI)C"⟩
abbrev cJ2_checkIndex_2214a : ByteArray := prog_17_method_91_code
def yJ2_checkIndex_2214a : MethodName := ⟨RJ2, "checkIndex", "(I[B)V"⟩
def RJ10 : String := "java/lang/System"
def TJ10 : u_T := fun k => match k with
  | _ => ("", "", "", false)
def tyJ10 : Nat → FieldType := fun k => match k with
  | _ => .int
abbrev wsJ100 : List Cond := u_ws RJ10 TJ10 0
theorem nmJ10 : ∀ a, a < 0 → ∀ b, b < 0 → a ≠ b → (TJ10 a).2.1 ≠ (TJ10 b).2.1 := by decide +kernel
theorem tyJ10_ok : ∀ k, k < 0 → parseFieldDescriptor (TJ10 k).2.2.1 = some (tyJ10 k) := by decide +kernel
def RJ3 : String := "jdk/internal/util/Preconditions"
def TJ3 : u_T := fun k => match k with
  | _ => ("", "", "", false)
def tyJ3 : Nat → FieldType := fun k => match k with
  | _ => .int
abbrev wsJ30 : List Cond := u_ws RJ3 TJ3 0
theorem nmJ3 : ∀ a, a < 0 → ∀ b, b < 0 → a ≠ b → (TJ3 a).2.1 ≠ (TJ3 b).2.1 := by decide +kernel
theorem tyJ3_ok : ∀ k, k < 0 → parseFieldDescriptor (TJ3 k).2.2.1 = some (tyJ3 k) := by decide +kernel
abbrev cJ3_checkIndex_8e157 : ByteArray := prog_19_method_11_code
def yJ3_checkIndex_8e157 : MethodName := ⟨RJ3, "checkIndex", "(IILjava/util/function/BiFunction;)I"⟩
def RL : String := "DebtorViewsLaw"
abbrev cL_law : ByteArray := code
abbrev vwCl : List vw_C := [(RX0, TX0, 12), (RX1, TX1, 3), (RX2, TX2, 3), (RX3, TX3, 8), (RX4, TX4, 2), (RX5, TX5, 3), (RX6, TX6, 1), (RX7, TX7, 2), (RX8, TX8, 11), (RX9, TX9, 5), (RX10, TX10, 18)]
end
section
def wsL_law_r1 : List Cond := [Cond.classLink RL 7 RX9, Cond.instantiable RX9 5, Cond.initialized RX9, Cond.classLink RL 10 RX10, Cond.instantiable RX10 18, Cond.initialized RX10, Cond.methodLink RL 9 yX9_init, Cond.instanceMethod yX9_init, Cond.code yX9_init cX9_init 1 none, Cond.methodLink RX9 3 objectInit, Cond.instanceMethod objectInit, Cond.code objectInit ⟨#[0xb1]⟩ 1 none, Cond.classLink RX9 9 RX3, Cond.instantiable RX3 8, Cond.initialized RX3, Cond.fieldLink RX9 12 "DebtorViews" "reader" "LDebtorViews$Reader;", Cond.classLink RX9 16 RX5, Cond.instantiable RX5 3, Cond.initialized RX5, Cond.fieldLink RX9 19 "DebtorViews" "state" "LDebtorViews$State;", Cond.classLink RX9 23 RX1, Cond.instantiable RX1 3, Cond.initialized RX1, Cond.fieldLink RX9 26 "DebtorViews" "history" "LDebtorViews$History;"]
def wsL_law_r2 : List Cond := [Cond.classLink RX9 30 RX4, Cond.instantiable RX4 2, Cond.initialized RX4, Cond.fieldLink RX9 33 "DebtorViews" "replay" "LDebtorViews$Replay;", Cond.classLink RX9 37 RX0, Cond.instantiable RX0 12, Cond.initialized RX0, Cond.fieldLink RX9 40 "DebtorViews" "forecast" "LDebtorViews$Books;", Cond.instanceMethod yX3_init, Cond.code yX3_init cX3_init 1 none, Cond.methodLink RX3 3 objectInit, Cond.classLink RX3 9 RX7, Cond.instantiable RX7 2, Cond.initialized RX7, Cond.fieldLink RX3 12 "DebtorViews$Reader" "text" "LDebtorViews$Text;", Cond.fieldLink RX3 18 "DebtorViews$Reader" "fault" "I", Cond.instanceMethod yX7_init, Cond.code yX7_init cX7_init 1 none, Cond.methodLink RX7 3 objectInit, Cond.arrayClass .int, Cond.fieldLink RX7 9 "DebtorViews$Text" "characters" "[I", Cond.methodLink RX9 18 yX5_init, Cond.instanceMethod yX5_init, Cond.code yX5_init cX5_init 2 none]
def wsL_law_r3 : List Cond := [Cond.methodLink RX5 3 objectInit, Cond.classLink RX5 9 RX0, Cond.fieldLink RX5 12 "DebtorViews$State" "books" "LDebtorViews$Books;", Cond.fieldLink RX5 18 "DebtorViews$State" "slots" "[LDebtorViews$Books;", Cond.arrayClass .boolean, Cond.fieldLink RX5 22 "DebtorViews$State" "taken" "[Z", Cond.methodLink RX5 11 yX0_init, Cond.instanceMethod yX0_init, Cond.code yX0_init cX0_init 2 none, Cond.methodLink RX0 3 objectInit, Cond.classLink RX0 9 RX2, Cond.instantiable RX2 3, Cond.initialized RX2, Cond.fieldLink RX0 12 "DebtorViews$Books" "log" "LDebtorViews$Log;", Cond.classLink RX0 18 RX8, Cond.fieldLink RX0 20 "DebtorViews$Books" "views" "[LDebtorViews$View;", Cond.fieldLink RX0 24 "DebtorViews$Books" "settings" "[I", Cond.fieldLink RX0 28 "DebtorViews$Books" "ranks" "[I", Cond.instantiable RX8 11, Cond.initialized RX8, Cond.instanceMethod yX2_init, Cond.code yX2_init cX2_init 1 none, Cond.methodLink RX2 3 objectInit, Cond.fieldLink RX2 9 "DebtorViews$Log" "cells" "[I"]
def wsL_law_r4 : List Cond := [Cond.fieldLink RX2 15 "DebtorViews$Log" "values" "[I", Cond.instanceMethod yX8_init, Cond.code yX8_init cX8_init 1 none, Cond.methodLink RX8 3 objectInit, Cond.methodLink RX9 25 yX1_init, Cond.instanceMethod yX1_init, Cond.code yX1_init cX1_init 2 none, Cond.methodLink RX1 3 objectInit, Cond.classLink RX1 9 RX5, Cond.fieldLink RX1 11 "DebtorViews$History" "states" "[LDebtorViews$State;", Cond.methodLink RX1 17 yX5_init, Cond.instanceMethod yX4_init, Cond.code yX4_init cX4_init 1 none, Cond.methodLink RX4 3 objectInit, Cond.classLink RX4 9 RX6, Cond.instantiable RX6 1, Cond.initialized RX6, Cond.fieldLink RX4 12 "DebtorViews$Replay" "tables" "LDebtorViews$Tables;", Cond.fieldLink RX4 18 "DebtorViews$Replay" "answers" "[I", Cond.instanceMethod yX6_init, Cond.code yX6_init cX6_init 1 none, Cond.methodLink RX6 3 objectInit, Cond.fieldLink RX6 9 "DebtorViews$Tables" "values" "[I", Cond.methodLink RX9 39 yX0_init]
def wsL_law_r5 : List Cond := [Cond.methodLink RL 12 yX10_init, Cond.instanceMethod yX10_init, Cond.code yX10_init cX10_init 1 none, Cond.methodLink RX10 1 objectInit, Cond.fieldLink RX10 7 "DebtorViewsModel" "now" "[I", Cond.fieldLink RX10 13 "DebtorViewsModel" "past" "[I", Cond.fieldLink RX10 16 "DebtorViewsModel" "text" "[I", Cond.fieldLink RX10 19 "DebtorViewsModel" "tables" "[I", Cond.fieldLink RX10 22 "DebtorViewsModel" "answers" "[I", Cond.fieldLink RX10 25 "DebtorViewsModel" "keys" "[I", Cond.fieldLink RX10 28 "DebtorViewsModel" "turns" "[I", Cond.methodLink RL 13 yX9_put, Cond.instanceMethod yX9_put, Cond.selects RX9 yX9_put yX9_put, Cond.code yX9_put cX9_put 5 (some .int), Cond.constant RX9 48 (-100000001), Cond.constant RX9 62 (-100000003), Cond.methodLink RX9 44 yX9_isCell, Cond.static yX9_isCell, Cond.code yX9_isCell cX9_isCell 2 (some .boolean), Cond.methodLink RX9 56 yX2_isFull, Cond.instanceMethod yX2_isFull, Cond.selects RX2 yX2_isFull yX2_isFull, Cond.code yX2_isFull cX2_isFull 1 (some .boolean)]
def wsL_law_r6 : List Cond := [Cond.fieldLink RX2 18 "DebtorViews$Log" "end" "I", Cond.methodLink RX9 63 yX1_record, Cond.instanceMethod yX1_record, Cond.selects RX1 yX1_record yX1_record, Cond.code yX1_record cX1_record 3 none, Cond.fieldLink RX1 18 "DebtorViews$History" "size" "I", Cond.fieldLink RX1 22 "DebtorViews$History" "oldest" "I", Cond.methodLink RX1 25 yX1_row, Cond.instanceMethod yX1_row, Cond.selects RX1 yX1_row yX1_row, Cond.code yX1_row cX1_row 3 (some (.object "DebtorViews$State")), Cond.methodLink RX1 29 yX5_copyFrom, Cond.instanceMethod yX5_copyFrom, Cond.selects RX5 yX5_copyFrom yX5_copyFrom, Cond.code yX5_copyFrom cX5_copyFrom 4 none, Cond.methodLink RX5 30 yX0_copyFrom, Cond.instanceMethod yX0_copyFrom, Cond.selects RX0 yX0_copyFrom yX0_copyFrom, Cond.code yX0_copyFrom cX0_copyFrom 3 none, Cond.fieldLink RX0 43 "DebtorViews$Books" "defined" "I", Cond.fieldLink RX0 121 "DebtorViews$Books" "treasury" "I", Cond.fieldLink RX0 124 "DebtorViews$Books" "received" "I", Cond.fieldLink RX0 158 "DebtorViews$Books" "spentOnDebts" "I", Cond.fieldLink RX0 165 "DebtorViews$Books" "spentOnArrears" "I"]
def wsL_law_r7 : List Cond := [Cond.fieldLink RX0 183 "DebtorViews$Books" "spentOnFounding" "I", Cond.fieldLink RX0 130 "DebtorViews$Books" "writtenOff" "I", Cond.fieldLink RX0 139 "DebtorViews$Books" "ticks" "I", Cond.methodLink RX0 189 yX2_copyFrom, Cond.instanceMethod yX2_copyFrom, Cond.selects RX2 yX2_copyFrom yX2_copyFrom, Cond.code yX2_copyFrom cX2_copyFrom 3 none, Cond.methodLink RX2 29 arraycopyName, Cond.native arraycopyName, Cond.static arraycopyName, Cond.initialized "java/lang/System", Cond.methodLink RX0 193 yX8_copyFrom, Cond.instanceMethod yX8_copyFrom, Cond.selects RX8 yX8_copyFrom yX8_copyFrom, Cond.code yX8_copyFrom cX8_copyFrom 2 none, Cond.fieldLink RX8 30 "DebtorViews$View" "exists" "Z", Cond.fieldLink RX8 9 "DebtorViews$View" "kind" "I", Cond.fieldLink RX8 15 "DebtorViews$View" "table" "I", Cond.fieldLink RX8 18 "DebtorViews$View" "first" "I", Cond.fieldLink RX8 21 "DebtorViews$View" "last" "I", Cond.fieldLink RX8 24 "DebtorViews$View" "cells" "I", Cond.fieldLink RX8 27 "DebtorViews$View" "keys" "I", Cond.fieldLink RX8 38 "DebtorViews$View" "bankrupt" "Z", Cond.fieldLink RX8 41 "DebtorViews$View" "place" "I"]
def wsL_law_r8 : List Cond := [Cond.fieldLink RX8 44 "DebtorViews$View" "debt" "I", Cond.fieldLink RX8 80 "DebtorViews$View" "spent" "I", Cond.methodLink RX8 72 yX8_pose, Cond.instanceMethod yX8_pose, Cond.selects RX8 yX8_pose yX8_pose, Cond.code yX8_pose cX8_pose 5 none, Cond.methodLink RX8 76 yX8_concern, Cond.instanceMethod yX8_concern, Cond.selects RX8 yX8_concern yX8_concern, Cond.code yX8_concern cX8_concern 3 none, Cond.methodLink RX0 112 yX0_setting, Cond.instanceMethod yX0_setting, Cond.selects RX0 yX0_setting yX0_setting, Cond.code yX0_setting cX0_setting 2 (some .int), Cond.methodLink RX5 34 yX5_snapshot, Cond.instanceMethod yX5_snapshot, Cond.selects RX5 yX5_snapshot yX5_snapshot, Cond.code yX5_snapshot cX5_snapshot 2 (some (.object "DebtorViews$Books")), Cond.methodLink RX5 26 yX5_isTaken, Cond.instanceMethod yX5_isTaken, Cond.selects RX5 yX5_isTaken yX5_isTaken, Cond.code yX5_isTaken cX5_isTaken 2 (some .boolean), Cond.methodLink RX5 38 yX5_keepIn, Cond.instanceMethod yX5_keepIn]
def wsL_law_r9 : List Cond := [Cond.selects RX5 yX5_keepIn yX5_keepIn, Cond.code yX5_keepIn cX5_keepIn 3 none, Cond.methodLink RX9 67 yX9_cellOf, Cond.static yX9_cellOf, Cond.code yX9_cellOf cX9_cellOf 2 (some .int), Cond.methodLink RX9 71 yX2_add, Cond.instanceMethod yX2_add, Cond.selects RX2 yX2_add yX2_add, Cond.code yX2_add cX2_add 4 (some .int), Cond.methodLink RL 17 yX10_put, Cond.instanceMethod yX10_put, Cond.selects RX10 yX10_put yX10_put, Cond.code yX10_put cX10_put 5 (some .int), Cond.constant RX10 71 (-100000001), Cond.constant RX10 72 (-100000003), Cond.methodLink RX10 31 yX10_in, Cond.static yX10_in, Cond.code yX10_in cX10_in 3 (some .boolean), Cond.methodLink RX10 73 yX10_notes, Cond.instanceMethod yX10_notes, Cond.selects RX10 yX10_notes yX10_notes, Cond.code yX10_notes cX10_notes 2 none, Cond.fieldLink RX10 39 "DebtorViewsModel" "states" "I", Cond.methodLink RX10 43 yX10_c]
def wsL_law_r10 : List Cond := [Cond.static yX10_c, Cond.code yX10_c cX10_c 2 (some .int), Cond.methodLink RL 18 yX9_define, Cond.instanceMethod yX9_define, Cond.selects RX9 yX9_define yX9_define, Cond.code yX9_define cX9_define 2 (some .int), Cond.methodLink RX9 74 yX3_read, Cond.instanceMethod yX3_read, Cond.selects RX3 yX3_read yX3_read, Cond.code yX3_read cX3_read 1 none, Cond.fieldLink RX3 22 "DebtorViews$Reader" "next" "I", Cond.fieldLink RX3 29 "DebtorViews$Reader" "kind" "I", Cond.fieldLink RX3 35 "DebtorViews$Reader" "table" "I", Cond.fieldLink RX3 41 "DebtorViews$Reader" "first" "I", Cond.fieldLink RX3 47 "DebtorViews$Reader" "last" "I", Cond.methodLink RX3 25 yX3_readKind, Cond.instanceMethod yX3_readKind, Cond.selects RX3 yX3_readKind yX3_readKind, Cond.code yX3_readKind cX3_readKind 2 (some .int), Cond.methodLink RX3 53 yX3_advance, Cond.instanceMethod yX3_advance, Cond.selects RX3 yX3_advance yX3_advance, Cond.code yX3_advance cX3_advance 1 none, Cond.fieldLink RX3 71 "DebtorViews$Reader" "start" "I"]
def wsL_law_r11 : List Cond := [Cond.methodLink RX3 74 yX7_at, Cond.instanceMethod yX7_at, Cond.selects RX7 yX7_at yX7_at, Cond.code yX7_at cX7_at 2 (some .int), Cond.fieldLink RX7 15 "DebtorViews$Text" "length" "I", Cond.methodLink RX3 87 yX3_isSameRun, Cond.static yX3_isSameRun, Cond.code yX3_isSameRun cX3_isSameRun 2 (some .boolean), Cond.methodLink RX3 109 yX3_isLetter, Cond.static yX3_isLetter, Cond.code yX3_isLetter cX3_isLetter 1 (some .boolean), Cond.methodLink RX3 78 yX3_isDigit, Cond.static yX3_isDigit, Cond.code yX3_isDigit cX3_isDigit 1 (some .boolean), Cond.methodLink RX3 56 yX3_word, Cond.static yX3_word, Cond.code yX3_word cX3_word 1 (some (.object "java/lang/String")), Cond.methodLink RX3 60 yX3_tokenIs, Cond.instanceMethod yX3_tokenIs, Cond.selects RX3 yX3_tokenIs yX3_tokenIs, Cond.code yX3_tokenIs cX3_tokenIs 3 (some .boolean), Cond.methodLink RX3 91 yJ0_length_8abf5, Cond.instanceMethod yJ0_length_8abf5, Cond.selects RJ0 yJ0_length_8abf5 yJ0_length_8abf5]
def wsL_law_r12 : List Cond := [Cond.initialized RJ0, Cond.code yJ0_length_8abf5 cJ0_length_8abf5 1 (some .int), Cond.fieldLink RJ0 9 "java/lang/String" "value" "[B", Cond.methodLink RJ0 335 yJ0_coder_7d493, Cond.instanceMethod yJ0_coder_7d493, Cond.selects RJ0 yJ0_coder_7d493 yJ0_coder_7d493, Cond.code yJ0_coder_7d493 cJ0_coder_7d493 1 (some .byte), Cond.fieldLink RJ0 38 "java/lang/String" "COMPACT_STRINGS" "Z", Cond.fieldLink RJ0 15 "java/lang/String" "coder" "B", Cond.methodLink RX3 95 yJ0_charAt_5068e, Cond.instanceMethod yJ0_charAt_5068e, Cond.selects RJ0 yJ0_charAt_5068e yJ0_charAt_5068e, Cond.code yJ0_charAt_5068e cJ0_charAt_5068e 2 (some .char), Cond.methodLink RJ0 492 yJ0_isLatin1_aae02, Cond.instanceMethod yJ0_isLatin1_aae02, Cond.selects RJ0 yJ0_isLatin1_aae02 yJ0_isLatin1_aae02, Cond.code yJ0_isLatin1_aae02 cJ0_isLatin1_aae02 1 (some .boolean), Cond.methodLink RJ0 495 yJ1_charAt_3b067, Cond.static yJ1_charAt_3b067, Cond.initialized RJ1, Cond.code yJ1_charAt_3b067 cJ1_charAt_3b067 2 (some .char), Cond.methodLink RJ1 9 yJ0_checkIndex_df160, Cond.static yJ0_checkIndex_df160, Cond.code yJ0_checkIndex_df160 cJ0_checkIndex_df160 2 none]
def wsL_law_r13 : List Cond := [Cond.fieldLink RJ0 1053 "jdk/internal/util/Preconditions" "SIOOBE_FORMATTER" "Ljava/util/function/BiFunction;", Cond.methodLink RJ0 1059 yJ3_checkIndex_8e157, Cond.static yJ3_checkIndex_8e157, Cond.initialized RJ3, Cond.code yJ3_checkIndex_8e157 cJ3_checkIndex_8e157 3 (some .int), Cond.methodLink RJ0 498 yJ2_charAt_3b067, Cond.static yJ2_charAt_3b067, Cond.initialized RJ2, Cond.code yJ2_charAt_3b067 cJ2_charAt_3b067 2 (some .char), Cond.methodLink RJ2 67 yJ2_checkIndex_2214a, Cond.static yJ2_checkIndex_2214a, Cond.code yJ2_checkIndex_2214a cJ2_checkIndex_2214a 2 none, Cond.methodLink RJ2 48 yJ2_length_9d52b, Cond.static yJ2_length_9d52b, Cond.code yJ2_length_9d52b cJ2_length_9d52b 1 (some .int), Cond.methodLink RJ2 414 yJ0_checkIndex_df160, Cond.methodLink RJ2 71 yJ2_getChar_3b067, Cond.static yJ2_getChar_3b067, Cond.code yJ2_getChar_3b067 cJ2_getChar_3b067 2 (some .char), Cond.fieldLink RJ2 44 "java/lang/StringUTF16" "$assertionsDisabled" "Z", Cond.fieldLink RJ2 59 "java/lang/StringUTF16" "HI_BYTE_SHIFT" "I", Cond.fieldLink RJ2 63 "java/lang/StringUTF16" "LO_BYTE_SHIFT" "I", Cond.methodLink RX3 64 yX3_refuse, Cond.instanceMethod yX3_refuse]
def wsL_law_r14 : List Cond := [Cond.selects RX3 yX3_refuse yX3_refuse, Cond.code yX3_refuse cX3_refuse 1 none, Cond.methodLink RX3 32 yX3_readTable, Cond.instanceMethod yX3_readTable, Cond.selects RX3 yX3_readTable yX3_readTable, Cond.code yX3_readTable cX3_readTable 1 (some .int), Cond.methodLink RX3 38 yX3_readNumber, Cond.instanceMethod yX3_readNumber, Cond.selects RX3 yX3_readNumber yX3_readNumber, Cond.code yX3_readNumber cX3_readNumber 4 (some .int), Cond.methodLink RX3 44 yX3_readDash, Cond.instanceMethod yX3_readDash, Cond.selects RX3 yX3_readDash yX3_readDash, Cond.code yX3_readDash cX3_readDash 1 none, Cond.methodLink RX3 50 yX3_readEnd, Cond.instanceMethod yX3_readEnd, Cond.selects RX3 yX3_readEnd yX3_readEnd, Cond.code yX3_readEnd cX3_readEnd 1 none, Cond.methodLink RX9 77 yX3_hasFault, Cond.instanceMethod yX3_hasFault, Cond.selects RX3 yX3_hasFault yX3_hasFault, Cond.code yX3_hasFault cX3_hasFault 1 (some .boolean), Cond.methodLink RX9 93 yX0_allows, Cond.instanceMethod yX0_allows]
def wsL_law_r15 : List Cond := [Cond.selects RX0 yX0_allows yX0_allows, Cond.code yX0_allows cX0_allows 4 (some .boolean), Cond.methodLink RX0 39 yX0_find, Cond.instanceMethod yX0_find, Cond.selects RX0 yX0_find yX0_find, Cond.code yX0_find cX0_find 3 (some (.object "DebtorViews$View")), Cond.methodLink RX9 104 yX7_empty, Cond.instanceMethod yX7_empty, Cond.selects RX7 yX7_empty yX7_empty, Cond.code yX7_empty cX7_empty 1 none, Cond.methodLink RX9 112 yX0_addView, Cond.instanceMethod yX0_addView, Cond.selects RX0 yX0_addView yX0_addView, Cond.code yX0_addView cX0_addView 7 (some .int), Cond.constant RX0 47 (-100000003), Cond.methodLink RX0 48 yX8_pose, Cond.methodLink RX0 52 yX0_noteParts, Cond.instanceMethod yX0_noteParts, Cond.selects RX0 yX0_noteParts yX0_noteParts, Cond.code yX0_noteParts cX0_noteParts 4 none, Cond.methodLink RX0 63 yX8_concern, Cond.methodLink RX0 56 yX8_rangeCells, Cond.instanceMethod yX8_rangeCells, Cond.selects RX8 yX8_rangeCells yX8_rangeCells]
def wsL_law_r16 : List Cond := [Cond.code yX8_rangeCells cX8_rangeCells 2 (some .int), Cond.methodLink RX0 60 yX8_rangeKeys, Cond.instanceMethod yX8_rangeKeys, Cond.selects RX8 yX8_rangeKeys yX8_rangeKeys, Cond.code yX8_rangeKeys cX8_rangeKeys 1 (some .int), Cond.methodLink RX0 70 yX8_begin, Cond.instanceMethod yX8_begin, Cond.selects RX8 yX8_begin yX8_begin, Cond.code yX8_begin cX8_begin 2 none, Cond.methodLink RX8 34 yX8_standAnew, Cond.instanceMethod yX8_standAnew, Cond.selects RX8 yX8_standAnew yX8_standAnew, Cond.code yX8_standAnew cX8_standAnew 2 none, Cond.methodLink RL 22 yX10_define, Cond.instanceMethod yX10_define, Cond.selects RX10 yX10_define yX10_define, Cond.code yX10_define cX10_define 3 (some .int), Cond.fieldLink RX10 133 "DebtorViewsModel" "fault" "I", Cond.fieldLink RX10 152 "DebtorViewsModel" "kind" "I", Cond.fieldLink RX10 161 "DebtorViewsModel" "first" "I", Cond.fieldLink RX10 167 "DebtorViewsModel" "last" "I", Cond.fieldLink RX10 121 "DebtorViewsModel" "letters" "I", Cond.fieldLink RX10 146 "DebtorViewsModel" "table" "I", Cond.methodLink RX10 170 yX10_reads]
def wsL_law_r17 : List Cond := [Cond.instanceMethod yX10_reads, Cond.selects RX10 yX10_reads yX10_reads, Cond.code yX10_reads cX10_reads 1 none, Cond.fieldLink RX10 124 "DebtorViewsModel" "at" "I", Cond.methodLink RX10 143 yX10_word, Cond.instanceMethod yX10_word, Cond.selects RX10 yX10_word yX10_word, Cond.code yX10_word cX10_word 2 (some .int), Cond.fieldLink RX10 130 "DebtorViewsModel" "from" "I", Cond.methodLink RX10 136 yX10_begins, Cond.instanceMethod yX10_begins, Cond.selects RX10 yX10_begins yX10_begins, Cond.code yX10_begins cX10_begins 1 none, Cond.methodLink RX10 127 yX10_next, Cond.instanceMethod yX10_next, Cond.selects RX10 yX10_next yX10_next, Cond.code yX10_next cX10_next 1 (some .int), Cond.methodLink RX10 149 yX10_kindOf, Cond.instanceMethod yX10_kindOf, Cond.selects RX10 yX10_kindOf yX10_kindOf, Cond.code yX10_kindOf cX10_kindOf 2 (some .int), Cond.methodLink RX10 139 yX10_allows, Cond.instanceMethod yX10_allows, Cond.selects RX10 yX10_allows yX10_allows]
def wsL_law_r18 : List Cond := [Cond.code yX10_allows cX10_allows 2 none, Cond.methodLink RX10 155 yX10_readsTable, Cond.instanceMethod yX10_readsTable, Cond.selects RX10 yX10_readsTable yX10_readsTable, Cond.code yX10_readsTable cX10_readsTable 2 none, Cond.methodLink RX10 158 yX10_number, Cond.instanceMethod yX10_number, Cond.selects RX10 yX10_number yX10_number, Cond.code yX10_number cX10_number 3 (some .int), Cond.methodLink RX10 164 yX10_sign, Cond.instanceMethod yX10_sign, Cond.selects RX10 yX10_sign yX10_sign, Cond.code yX10_sign cX10_sign 2 none, Cond.methodLink RX10 76 yX10_isView, Cond.instanceMethod yX10_isView, Cond.selects RX10 yX10_isView yX10_isView, Cond.code yX10_isView cX10_isView 2 (some .boolean), Cond.methodLink RX10 35 yX10_v, Cond.static yX10_v, Cond.code yX10_v cX10_v 2 (some .int), Cond.methodLink RL 23 yX9_drop, Cond.instanceMethod yX9_drop, Cond.selects RX9 yX9_drop yX9_drop, Cond.code yX9_drop cX9_drop 4 (some .int)]
def wsL_law_r19 : List Cond := [Cond.constant RX9 124 (-100000002), Cond.methodLink RX9 116 yX0_find, Cond.methodLink RX9 120 yX0_isPart, Cond.instanceMethod yX0_isPart, Cond.selects RX0 yX0_isPart yX0_isPart, Cond.code yX0_isPart cX0_isPart 4 (some .boolean), Cond.methodLink RX0 80 yX8_isMadeOf, Cond.instanceMethod yX8_isMadeOf, Cond.selects RX8 yX8_isMadeOf yX8_isMadeOf, Cond.code yX8_isMadeOf cX8_isMadeOf 2 (some .boolean), Cond.methodLink RX9 131 yX0_setOf, Cond.instanceMethod yX0_setOf, Cond.selects RX0 yX0_setOf yX0_setOf, Cond.code yX0_setOf cX0_setOf 5 (some .int), Cond.methodLink RX0 84 yX0_belongs, Cond.instanceMethod yX0_belongs, Cond.selects RX0 yX0_belongs yX0_belongs, Cond.code yX0_belongs cX0_belongs 3 (some .boolean), Cond.methodLink RX0 91 yX0_arrears, Cond.instanceMethod yX0_arrears, Cond.selects RX0 yX0_arrears yX0_arrears, Cond.code yX0_arrears cX0_arrears 4 (some .int), Cond.methodLink RX0 104 yX2_cell, Cond.instanceMethod yX2_cell]
def wsL_law_r20 : List Cond := [Cond.selects RX2 yX2_cell yX2_cell, Cond.code yX2_cell cX2_cell 2 (some .int), Cond.methodLink RX0 98 yX8_isConcernedBy, Cond.instanceMethod yX8_isConcernedBy, Cond.selects RX8 yX8_isConcernedBy yX8_isConcernedBy, Cond.code yX8_isConcernedBy cX8_isConcernedBy 2 (some .boolean), Cond.methodLink RX0 95 yX0_need, Cond.instanceMethod yX0_need, Cond.selects RX0 yX0_need yX0_need, Cond.code yX0_need cX0_need 2 (some .int), Cond.methodLink RX0 118 yX0_priceOfArrear, Cond.instanceMethod yX0_priceOfArrear, Cond.selects RX0 yX0_priceOfArrear yX0_priceOfArrear, Cond.code yX0_priceOfArrear cX0_priceOfArrear 2 (some .int), Cond.methodLink RX0 108 yX8_hasTable, Cond.instanceMethod yX8_hasTable, Cond.selects RX8 yX8_hasTable yX8_hasTable, Cond.code yX8_hasTable cX8_hasTable 1 (some .boolean), Cond.methodLink RX9 135 yJ6_bitCount_0f7a4, Cond.static yJ6_bitCount_0f7a4, Cond.initialized RJ6, Cond.code yJ6_bitCount_0f7a4 cJ6_bitCount_0f7a4 1 (some .int), Cond.constant RJ6 265 (1431655765), Cond.constant RJ6 266 (858993459)]
def wsL_law_r21 : List Cond := [Cond.constant RJ6 267 (252645135), Cond.methodLink RL 27 yX10_drop, Cond.instanceMethod yX10_drop, Cond.selects RX10 yX10_drop yX10_drop, Cond.code yX10_drop cX10_drop 3 (some .int), Cond.constant RX10 82 (-100000002), Cond.methodLink RX10 79 yX10_isMadeOf, Cond.instanceMethod yX10_isMadeOf, Cond.selects RX10 yX10_isMadeOf yX10_isMadeOf, Cond.code yX10_isMadeOf cX10_isMadeOf 3 (some .boolean), Cond.methodLink RX10 83 yX10_views, Cond.instanceMethod yX10_views, Cond.selects RX10 yX10_views yX10_views, Cond.code yX10_views cX10_views 3 (some .int), Cond.methodLink RL 28 yX9_set, Cond.instanceMethod yX9_set, Cond.selects RX9 yX9_set yX9_set, Cond.code yX9_set cX9_set 4 (some .int), Cond.methodLink RX9 140 yX9_isSetting, Cond.static yX9_isSetting, Cond.code yX9_isSetting cX9_isSetting 2 (some .boolean), Cond.fieldLink RX9 284 "DebtorViews" "LEAST_SETTING" "[I", Cond.fieldLink RX9 288 "DebtorViews" "MOST_SETTING" "[I", Cond.methodLink RX9 143 yX0_setting]
def wsL_law_r22 : List Cond := [Cond.methodLink RX9 146 yX0_changeSetting, Cond.instanceMethod yX0_changeSetting, Cond.selects RX0 yX0_changeSetting yX0_changeSetting, Cond.code yX0_changeSetting cX0_changeSetting 3 none, Cond.methodLink RL 32 yX10_set, Cond.instanceMethod yX10_set, Cond.selects RX10 yX10_set yX10_set, Cond.code yX10_set cX10_set 4 (some .int), Cond.methodLink RX10 87 yX10_isSetting, Cond.static yX10_isSetting, Cond.code yX10_isSetting cX10_isSetting 2 (some .boolean), Cond.methodLink RL 33 yX9_grant, Cond.instanceMethod yX9_grant, Cond.selects RX9 yX9_grant yX9_grant, Cond.code yX9_grant cX9_grant 3 (some .int), Cond.methodLink RX9 153 yX0_receive, Cond.instanceMethod yX0_receive, Cond.selects RX0 yX0_receive yX0_receive, Cond.code yX0_receive cX0_receive 2 none, Cond.methodLink RL 36 yX10_grant, Cond.instanceMethod yX10_grant, Cond.selects RX10 yX10_grant yX10_grant, Cond.code yX10_grant cX10_grant 2 (some .int), Cond.methodLink RL 37 yX9_tick]
def wsL_law_r23 : List Cond := [Cond.instanceMethod yX9_tick, Cond.selects RX9 yX9_tick yX9_tick, Cond.code yX9_tick cX9_tick 2 (some .int), Cond.methodLink RX9 157 yX0_passTick, Cond.instanceMethod yX0_passTick, Cond.selects RX0 yX0_passTick yX0_passTick, Cond.code yX0_passTick cX0_passTick 4 (some .int), Cond.methodLink RX0 127 yX0_interest, Cond.instanceMethod yX0_interest, Cond.selects RX0 yX0_interest yX0_interest, Cond.code yX0_interest cX0_interest 2 (some .int), Cond.methodLink RX0 133 yX8_fail, Cond.instanceMethod yX8_fail, Cond.selects RX8 yX8_fail yX8_fail, Cond.code yX8_fail cX8_fail 1 none, Cond.methodLink RX0 136 yX0_receive, Cond.methodLink RL 40 yX10_tick, Cond.instanceMethod yX10_tick, Cond.selects RX10 yX10_tick yX10_tick, Cond.code yX10_tick cX10_tick 3 (some .int), Cond.methodLink RX10 61 yX10_isBankrupt, Cond.instanceMethod yX10_isBankrupt, Cond.selects RX10 yX10_isBankrupt yX10_isBankrupt, Cond.code yX10_isBankrupt cX10_isBankrupt 2 (some .boolean)]
def wsL_law_r24 : List Cond := [Cond.methodLink RX10 68 yX10_arrears, Cond.instanceMethod yX10_arrears, Cond.selects RX10 yX10_arrears yX10_arrears, Cond.code yX10_arrears cX10_arrears 4 (some .int), Cond.methodLink RX10 58 yX10_concerned, Cond.instanceMethod yX10_concerned, Cond.selects RX10 yX10_concerned yX10_concerned, Cond.code yX10_concerned cX10_concerned 8 (some .int), Cond.methodLink RX10 54 yX10_has, Cond.static yX10_has, Cond.code yX10_has cX10_has 2 (some .boolean), Cond.methodLink RL 41 yX9_pay, Cond.instanceMethod yX9_pay, Cond.selects RX9 yX9_pay yX9_pay, Cond.code yX9_pay cX9_pay 5 (some .int), Cond.methodLink RX9 164 yX0_payOne, Cond.instanceMethod yX0_payOne, Cond.selects RX0 yX0_payOne yX0_payOne, Cond.code yX0_payOne cX0_payOne 5 (some .int), Cond.methodLink RX0 145 Lib.Math.min.name, Cond.static Lib.Math.min.name, Cond.initialized "java/lang/Math", Cond.code Lib.Math.min.name Lib.Math.min.code 2 (some .int), Cond.methodLink RX0 151 yX0_payDebt]
def wsL_law_r25 : List Cond := [Cond.instanceMethod yX0_payDebt, Cond.selects RX0 yX0_payDebt yX0_payDebt, Cond.code yX0_payDebt cX0_payDebt 4 (some .int), Cond.methodLink RX0 161 yX0_spend, Cond.instanceMethod yX0_spend, Cond.selects RX0 yX0_spend yX0_spend, Cond.code yX0_spend cX0_spend 3 none, Cond.methodLink RX0 155 yX0_payArrears, Cond.instanceMethod yX0_payArrears, Cond.selects RX0 yX0_payArrears yX0_payArrears, Cond.code yX0_payArrears cX0_payArrears 6 (some .int), Cond.methodLink RL 44 yX10_pay, Cond.instanceMethod yX10_pay, Cond.selects RX10 yX10_pay yX10_pay, Cond.code yX10_pay cX10_pay 3 (some .int), Cond.methodLink RX10 103 yX10_pays, Cond.instanceMethod yX10_pays, Cond.selects RX10 yX10_pays yX10_pays, Cond.code yX10_pays cX10_pays 4 (some .int), Cond.fieldLink RX10 90 "DebtorViewsModel" "onDebt" "I", Cond.fieldLink RX10 93 "DebtorViewsModel" "onArrears" "I", Cond.methodLink RX10 96 yX10_spends, Cond.instanceMethod yX10_spends, Cond.selects RX10 yX10_spends yX10_spends]
def wsL_law_r26 : List Cond := [Cond.code yX10_spends cX10_spends 8 none, Cond.methodLink RX10 65 yX10_priceOf, Cond.instanceMethod yX10_priceOf, Cond.selects RX10 yX10_priceOf yX10_priceOf, Cond.code yX10_priceOf cX10_priceOf 2 (some .int), Cond.methodLink RX10 100 yX10_arrear, Cond.instanceMethod yX10_arrear, Cond.selects RX10 yX10_arrear yX10_arrear, Cond.code yX10_arrear cX10_arrear 5 (some .int), Cond.methodLink RL 45 yX9_payAll, Cond.instanceMethod yX9_payAll, Cond.selects RX9 yX9_payAll yX9_payAll, Cond.code yX9_payAll cX9_payAll 2 (some .int), Cond.methodLink RX9 168 yX0_payEvery, Cond.instanceMethod yX0_payEvery, Cond.selects RX0 yX0_payEvery yX0_payEvery, Cond.code yX0_payEvery cX0_payEvery 6 (some .int), Cond.methodLink RX0 168 yX0_noteRanks, Cond.instanceMethod yX0_noteRanks, Cond.selects RX0 yX0_noteRanks yX0_noteRanks, Cond.code yX0_noteRanks cX0_noteRanks 3 none, Cond.methodLink RX0 180 yX0_rank, Cond.instanceMethod yX0_rank, Cond.selects RX0 yX0_rank yX0_rank]
def wsL_law_r27 : List Cond := [Cond.code yX0_rank cX0_rank 2 (some .int), Cond.methodLink RX0 171 yX0_setOf, Cond.methodLink RX0 174 yX0_nextOf, Cond.instanceMethod yX0_nextOf, Cond.selects RX0 yX0_nextOf yX0_nextOf, Cond.code yX0_nextOf cX0_nextOf 6 (some .int), Cond.methodLink RX0 177 yX0_payOne, Cond.methodLink RL 48 yX10_payAll, Cond.instanceMethod yX10_payAll, Cond.selects RX10 yX10_payAll yX10_payAll, Cond.code yX10_payAll cX10_payAll 4 (some .int), Cond.methodLink RX10 112 yX10_laysTurns, Cond.instanceMethod yX10_laysTurns, Cond.selects RX10 yX10_laysTurns yX10_laysTurns, Cond.code yX10_laysTurns cX10_laysTurns 5 (some .int), Cond.methodLink RX10 109 yX10_isBehind, Cond.instanceMethod yX10_isBehind, Cond.selects RX10 yX10_isBehind yX10_isBehind, Cond.code yX10_isBehind cX10_isBehind 5 (some .boolean), Cond.methodLink RX10 106 yX10_need, Cond.instanceMethod yX10_need, Cond.selects RX10 yX10_need yX10_need, Cond.code yX10_need cX10_need 2 (some .int), Cond.methodLink RL 49 yX9_found]
def wsL_law_r28 : List Cond := [Cond.instanceMethod yX9_found, Cond.selects RX9 yX9_found yX9_found, Cond.code yX9_found cX9_found 5 (some .int), Cond.methodLink RX9 171 yX0_foundingCost, Cond.instanceMethod yX0_foundingCost, Cond.selects RX0 yX0_foundingCost yX0_foundingCost, Cond.code yX0_foundingCost cX0_foundingCost 2 (some .int), Cond.methodLink RX9 175 yX0_foundAnew, Cond.instanceMethod yX0_foundAnew, Cond.selects RX0 yX0_foundAnew yX0_foundAnew, Cond.code yX0_foundAnew cX0_foundAnew 3 none, Cond.methodLink RX0 186 yX8_standAnew, Cond.methodLink RL 52 yX10_found, Cond.instanceMethod yX10_found, Cond.selects RX10 yX10_found yX10_found, Cond.code yX10_found cX10_found 3 (some .int), Cond.methodLink RX10 115 yX10_keysOf, Cond.instanceMethod yX10_keysOf, Cond.selects RX10 yX10_keysOf yX10_keysOf, Cond.code yX10_keysOf cX10_keysOf 5 (some .int), Cond.methodLink RL 53 yX9_take, Cond.instanceMethod yX9_take, Cond.selects RX9 yX9_take yX9_take, Cond.code yX9_take cX9_take 2 (some .int)]
def wsL_law_r29 : List Cond := [Cond.methodLink RX9 179 yX5_keepIn, Cond.methodLink RL 56 yX10_take, Cond.instanceMethod yX10_take, Cond.selects RX10 yX10_take yX10_take, Cond.code yX10_take cX10_take 3 (some .int), Cond.methodLink RX10 118 yX10_slotAt, Cond.static yX10_slotAt, Cond.code yX10_slotAt cX10_slotAt 1 (some .int), Cond.methodLink RL 57 yX9_restore, Cond.instanceMethod yX9_restore, Cond.selects RX9 yX9_restore yX9_restore, Cond.code yX9_restore cX9_restore 2 (some .int), Cond.methodLink RX9 186 yX5_isTaken, Cond.methodLink RX9 189 yX5_bringBack, Cond.instanceMethod yX5_bringBack, Cond.selects RX5 yX5_bringBack yX5_bringBack, Cond.code yX5_bringBack cX5_bringBack 3 none, Cond.methodLink RL 60 yX10_restore, Cond.instanceMethod yX10_restore, Cond.selects RX10 yX10_restore yX10_restore, Cond.code yX10_restore cX10_restore 3 (some .int), Cond.methodLink RL 61 yX9_undo, Cond.instanceMethod yX9_undo, Cond.selects RX9 yX9_undo yX9_undo]
def wsL_law_r30 : List Cond := [Cond.code yX9_undo cX9_undo 1 (some .int), Cond.methodLink RX9 195 yX1_removeLatestInto, Cond.instanceMethod yX1_removeLatestInto, Cond.selects RX1 yX1_removeLatestInto yX1_removeLatestInto, Cond.code yX1_removeLatestInto cX1_removeLatestInto 3 none, Cond.methodLink RL 64 yX10_undo, Cond.instanceMethod yX10_undo, Cond.selects RX10 yX10_undo yX10_undo, Cond.code yX10_undo cX10_undo 2 (some .int), Cond.methodLink RL 65 yX9_append, Cond.instanceMethod yX9_append, Cond.selects RX9 yX9_append yX9_append, Cond.code yX9_append cX9_append 2 (some .int), Cond.methodLink RX9 198 yX7_isFull, Cond.instanceMethod yX7_isFull, Cond.selects RX7 yX7_isFull yX7_isFull, Cond.code yX7_isFull cX7_isFull 1 (some .boolean), Cond.methodLink RX9 199 yX7_add, Cond.instanceMethod yX7_add, Cond.selects RX7 yX7_add yX7_add, Cond.code yX7_add cX7_add 2 none, Cond.methodLink RL 68 yX10_append, Cond.instanceMethod yX10_append, Cond.selects RX10 yX10_append yX10_append]
def wsL_law_r31 : List Cond := [Cond.code yX10_append cX10_append 2 (some .int), Cond.methodLink RL 69 yX9_clearText, Cond.instanceMethod yX9_clearText, Cond.selects RX9 yX9_clearText yX9_clearText, Cond.code yX9_clearText cX9_clearText 2 (some .int), Cond.methodLink RL 72 yX10_clearText, Cond.instanceMethod yX10_clearText, Cond.selects RX10 yX10_clearText yX10_clearText, Cond.code yX10_clearText cX10_clearText 2 (some .int), Cond.methodLink RL 73 yX9_count, Cond.instanceMethod yX9_count, Cond.selects RX9 yX9_count yX9_count, Cond.code yX9_count cX9_count 3 (some .int), Cond.methodLink RX9 219 yX0_allDebts, Cond.instanceMethod yX0_allDebts, Cond.selects RX0 yX0_allDebts yX0_allDebts, Cond.code yX0_allDebts cX0_allDebts 4 (some .int), Cond.methodLink RX9 225 yX5_snapshots, Cond.instanceMethod yX5_snapshots, Cond.selects RX5 yX5_snapshots yX5_snapshots, Cond.code yX5_snapshots cX5_snapshots 3 (some .int), Cond.methodLink RL 76 yX10_count, Cond.instanceMethod yX10_count, Cond.selects RX10 yX10_count yX10_count]
def wsL_law_r32 : List Cond := [Cond.code yX10_count cX10_count 2 (some .int), Cond.methodLink RX10 173 yX10_setOf, Cond.instanceMethod yX10_setOf, Cond.selects RX10 yX10_setOf yX10_setOf, Cond.code yX10_setOf cX10_setOf 5 (some .int), Cond.methodLink RX10 176 yX10_debts, Cond.instanceMethod yX10_debts, Cond.selects RX10 yX10_debts yX10_debts, Cond.code yX10_debts cX10_debts 3 (some .int), Cond.methodLink RL 77 yX9_value, Cond.instanceMethod yX9_value, Cond.selects RX9 yX9_value yX9_value, Cond.code yX9_value cX9_value 6 (some .int), Cond.constant RX9 231 (-100000009), Cond.methodLink RX9 228 yX2_valueAt, Cond.instanceMethod yX2_valueAt, Cond.selects RX2 yX2_valueAt yX2_valueAt, Cond.code yX2_valueAt cX2_valueAt 4 (some .int), Cond.methodLink RX2 22 yX2_cell, Cond.methodLink RX2 26 yX2_newValue, Cond.instanceMethod yX2_newValue, Cond.selects RX2 yX2_newValue yX2_newValue, Cond.code yX2_newValue cX2_newValue 2 (some .int), Cond.methodLink RL 80 yX10_value]
def wsL_law_r33 : List Cond := [Cond.instanceMethod yX10_value, Cond.selects RX10 yX10_value yX10_value, Cond.code yX10_value cX10_value 5 (some .int), Cond.constant RX10 182 (-100000009), Cond.methodLink RX10 179 yX10_isPlace, Cond.instanceMethod yX10_isPlace, Cond.selects RX10 yX10_isPlace yX10_isPlace, Cond.code yX10_isPlace cX10_isPlace 2 (some .boolean), Cond.methodLink RX10 46 yX10_lays, Cond.instanceMethod yX10_lays, Cond.selects RX10 yX10_lays yX10_lays, Cond.code yX10_lays cX10_lays 3 none, Cond.methodLink RL 81 yX9_change, Cond.instanceMethod yX9_change, Cond.selects RX9 yX9_change yX9_change, Cond.code yX9_change cX9_change 5 (some .int), Cond.methodLink RX9 232 yX2_cell, Cond.methodLink RX9 235 yX2_newValue, Cond.methodLink RX9 238 yX0_concernedBy, Cond.instanceMethod yX0_concernedBy, Cond.selects RX0 yX0_concernedBy yX0_concernedBy, Cond.code yX0_concernedBy cX0_concernedBy 5 (some .int), Cond.methodLink RL 84 yX10_change, Cond.instanceMethod yX10_change]
def wsL_law_r34 : List Cond := [Cond.selects RX10 yX10_change yX10_change, Cond.code yX10_change cX10_change 3 (some .int), Cond.methodLink RL 85 yX9_view, Cond.instanceMethod yX9_view, Cond.selects RX9 yX9_view yX9_view, Cond.code yX9_view cX9_view 5 (some .int), Cond.methodLink RX9 242 yX8_hasTable, Cond.methodLink RX9 251 yX0_arrears, Cond.methodLink RX9 257 yX0_need, Cond.methodLink RL 88 yX10_view, Cond.instanceMethod yX10_view, Cond.selects RX10 yX10_view yX10_view, Cond.code yX10_view cX10_view 3 (some .int), Cond.methodLink RL 89 yX9_kept, Cond.instanceMethod yX9_kept, Cond.selects RX9 yX9_kept yX9_kept, Cond.code yX9_kept cX9_kept 3 (some .int), Cond.methodLink RX9 263 yX4_answerByTables, Cond.instanceMethod yX4_answerByTables, Cond.selects RX4 yX4_answerByTables yX4_answerByTables, Cond.code yX4_answerByTables cX4_answerByTables 5 (some .int), Cond.methodLink RX4 22 yX6_empty, Cond.instanceMethod yX6_empty, Cond.selects RX6 yX6_empty yX6_empty]
def wsL_law_r35 : List Cond := [Cond.code yX6_empty cX6_empty 2 none, Cond.methodLink RX4 31 yX2_cell, Cond.methodLink RX4 37 yX2_newValue, Cond.methodLink RX4 40 yX6_assign, Cond.instanceMethod yX6_assign, Cond.selects RX6 yX6_assign yX6_assign, Cond.code yX6_assign cX6_assign 3 none, Cond.methodLink RX4 44 yX4_askTables, Cond.instanceMethod yX4_askTables, Cond.selects RX4 yX4_askTables yX4_askTables, Cond.code yX4_askTables cX4_askTables 4 none, Cond.methodLink RX4 62 yX0_find, Cond.methodLink RX4 71 yX4_difference, Cond.instanceMethod yX4_difference, Cond.selects RX4 yX4_difference yX4_difference, Cond.code yX4_difference cX4_difference 2 (some .int), Cond.methodLink RX4 48 yX4_answer, Cond.instanceMethod yX4_answer, Cond.selects RX4 yX4_answer yX4_answer, Cond.code yX4_answer cX4_answer 2 (some .int), Cond.methodLink RX4 75 yX8_rangeAnswer, Cond.instanceMethod yX8_rangeAnswer, Cond.selects RX8 yX8_rangeAnswer yX8_rangeAnswer, Cond.code yX8_rangeAnswer cX8_rangeAnswer 5 (some .int)]
def wsL_law_r36 : List Cond := [Cond.methodLink RX8 63 Lib.Math.max.name, Cond.static Lib.Math.max.name, Cond.code Lib.Math.max.name Lib.Math.max.code 2 (some .int), Cond.methodLink RX8 51 yX6_at, Cond.instanceMethod yX6_at, Cond.selects RX6 yX6_at yX6_at, Cond.code yX6_at cX6_at 2 (some .int), Cond.static yX9_amount, Cond.code yX9_amount cX9_amount 1 (some .int), Cond.static yX9_presence, Cond.code yX9_presence cX9_presence 1 (some .int), Cond.methodLink RL 92 yX10_kept, Cond.instanceMethod yX10_kept, Cond.selects RX10 yX10_kept yX10_kept, Cond.code yX10_kept cX10_kept 2 (some .int), Cond.methodLink RX10 183 yX10_answerAt, Cond.instanceMethod yX10_answerAt, Cond.selects RX10 yX10_answerAt yX10_answerAt, Cond.code yX10_answerAt cX10_answerAt 4 (some .int), Cond.methodLink RX10 50 yX10_answerOf, Cond.instanceMethod yX10_answerOf, Cond.selects RX10 yX10_answerOf yX10_answerOf, Cond.code yX10_answerOf cX10_answerOf 7 (some .int), Cond.methodLink RL 93 yX9_ask]
def wsL_law_r37 : List Cond := [Cond.instanceMethod yX9_ask, Cond.selects RX9 yX9_ask yX9_ask, Cond.code yX9_ask cX9_ask 5 (some .int), Cond.methodLink RX9 267 yX4_answerByChanges, Cond.instanceMethod yX4_answerByChanges, Cond.selects RX4 yX4_answerByChanges yX4_answerByChanges, Cond.code yX4_answerByChanges cX4_answerByChanges 5 (some .int), Cond.methodLink RX4 51 yX4_begin, Cond.instanceMethod yX4_begin, Cond.selects RX4 yX4_begin yX4_begin, Cond.code yX4_begin cX4_begin 2 none, Cond.methodLink RX4 54 yX4_step, Cond.instanceMethod yX4_step, Cond.selects RX4 yX4_step yX4_step, Cond.code yX4_step cX4_step 7 none, Cond.methodLink RX4 79 yX6_at, Cond.methodLink RX4 82 yX8_isConcernedBy, Cond.methodLink RX4 86 yX8_revisedAnswer, Cond.instanceMethod yX8_revisedAnswer, Cond.selects RX8 yX8_revisedAnswer yX8_revisedAnswer, Cond.code yX8_revisedAnswer cX8_revisedAnswer 8 (some .int), Cond.methodLink RX8 68 yX8_rangeAnswer, Cond.methodLink RL 96 yX10_ask, Cond.instanceMethod yX10_ask]
def wsL_law_r38 : List Cond := [Cond.selects RX10 yX10_ask yX10_ask, Cond.code yX10_ask cX10_ask 4 (some .int), Cond.methodLink RL 97 yX9_ruin, Cond.instanceMethod yX9_ruin, Cond.selects RX9 yX9_ruin yX9_ruin, Cond.code yX9_ruin cX9_ruin 8 (some .int), Cond.methodLink RX9 270 yX0_interest, Cond.methodLink RL 100 yX10_ruin, Cond.instanceMethod yX10_ruin, Cond.selects RX10 yX10_ruin yX10_ruin, Cond.code yX10_ruin cX10_ruin 5 (some .int), Cond.methodLink RL 101 yX9_settled, Cond.instanceMethod yX9_settled, Cond.selects RX9 yX9_settled yX9_settled, Cond.code yX9_settled cX9_settled 3 (some .int), Cond.methodLink RX9 273 yX0_copyFrom, Cond.methodLink RL 104 yX10_settled, Cond.instanceMethod yX10_settled, Cond.selects RX10 yX10_settled yX10_settled, Cond.code yX10_settled cX10_settled 8 (some .int), Cond.methodLink RL 105 yX9_needed, Cond.instanceMethod yX9_needed, Cond.selects RX9 yX9_needed yX9_needed, Cond.code yX9_needed cX9_needed 1 (some .int)]
def wsL_law_r39 : List Cond := [Cond.methodLink RX9 277 yX0_allNeeds, Cond.instanceMethod yX0_allNeeds, Cond.selects RX0 yX0_allNeeds yX0_allNeeds, Cond.code yX0_allNeeds cX0_allNeeds 4 (some .int), Cond.methodLink RL 108 yX10_needed, Cond.instanceMethod yX10_needed, Cond.selects RX10 yX10_needed yX10_needed, Cond.code yX10_needed cX10_needed 3 (some .int), Cond.methodLink RL 109 yX9_since, Cond.instanceMethod yX9_since, Cond.selects RX9 yX9_since yX9_since, Cond.code yX9_since cX9_since 2 (some .int), Cond.methodLink RX9 280 yX4_lastTurn, Cond.instanceMethod yX4_lastTurn, Cond.selects RX4 yX4_lastTurn yX4_lastTurn, Cond.code yX4_lastTurn cX4_lastTurn 6 (some .int), Cond.methodLink RL 112 yX10_since, Cond.instanceMethod yX10_since, Cond.selects RX10 yX10_since yX10_since, Cond.code yX10_since cX10_since 4 (some .int)]
def wsL_law : List Cond := (wsL_law_r1 ++ (wsL_law_r2 ++ (wsL_law_r3 ++ (wsL_law_r4 ++ (wsL_law_r5 ++ (wsL_law_r6 ++ (wsL_law_r7 ++ (wsL_law_r8 ++ (wsL_law_r9 ++ (wsL_law_r10 ++ (wsL_law_r11 ++ (wsL_law_r12 ++ (wsL_law_r13 ++ (wsL_law_r14 ++ (wsL_law_r15 ++ (wsL_law_r16 ++ (wsL_law_r17 ++ (wsL_law_r18 ++ (wsL_law_r19 ++ (wsL_law_r20 ++ (wsL_law_r21 ++ (wsL_law_r22 ++ (wsL_law_r23 ++ (wsL_law_r24 ++ (wsL_law_r25 ++ (wsL_law_r26 ++ (wsL_law_r27 ++ (wsL_law_r28 ++ (wsL_law_r29 ++ (wsL_law_r30 ++ (wsL_law_r31 ++ (wsL_law_r32 ++ (wsL_law_r33 ++ (wsL_law_r34 ++ (wsL_law_r35 ++ (wsL_law_r36 ++ (wsL_law_r37 ++ (wsL_law_r38 ++ wsL_law_r39)))))))))))))))))))))))))))))))))))))) ++ wsX90 ++ wsX100 ++ wsX30 ++ wsX50 ++ wsX10 ++ wsX40 ++ wsX00 ++ wsX70 ++ wsX20 ++ wsX80 ++ wsX60 ++ ([] : List Cond)
theorem inlX0 : ∀ w ∈ wsX00, w ∈ wsL_law := fun _ h => List.mem_append_left _ (List.mem_append_left _ (List.mem_append_left _ (List.mem_append_left _ (List.mem_append_left _ (List.mem_append_right _ h)))))
theorem inlX1 : ∀ w ∈ wsX10, w ∈ wsL_law := fun _ h => List.mem_append_left _ (List.mem_append_left _ (List.mem_append_left _ (List.mem_append_left _ (List.mem_append_left _ (List.mem_append_left _ (List.mem_append_left _ (List.mem_append_right _ h)))))))
theorem inlX2 : ∀ w ∈ wsX20, w ∈ wsL_law := fun _ h => List.mem_append_left _ (List.mem_append_left _ (List.mem_append_left _ (List.mem_append_right _ h)))
theorem inlX3 : ∀ w ∈ wsX30, w ∈ wsL_law := fun _ h => List.mem_append_left _ (List.mem_append_left _ (List.mem_append_left _ (List.mem_append_left _ (List.mem_append_left _ (List.mem_append_left _ (List.mem_append_left _ (List.mem_append_left _ (List.mem_append_left _ (List.mem_append_right _ h)))))))))
theorem inlX4 : ∀ w ∈ wsX40, w ∈ wsL_law := fun _ h => List.mem_append_left _ (List.mem_append_left _ (List.mem_append_left _ (List.mem_append_left _ (List.mem_append_left _ (List.mem_append_left _ (List.mem_append_right _ h))))))
theorem inlX5 : ∀ w ∈ wsX50, w ∈ wsL_law := fun _ h => List.mem_append_left _ (List.mem_append_left _ (List.mem_append_left _ (List.mem_append_left _ (List.mem_append_left _ (List.mem_append_left _ (List.mem_append_left _ (List.mem_append_left _ (List.mem_append_right _ h))))))))
theorem inlX6 : ∀ w ∈ wsX60, w ∈ wsL_law := fun _ h => List.mem_append_left _ (List.mem_append_right _ h)
theorem inlX7 : ∀ w ∈ wsX70, w ∈ wsL_law := fun _ h => List.mem_append_left _ (List.mem_append_left _ (List.mem_append_left _ (List.mem_append_left _ (List.mem_append_right _ h))))
theorem inlX8 : ∀ w ∈ wsX80, w ∈ wsL_law := fun _ h => List.mem_append_left _ (List.mem_append_left _ (List.mem_append_right _ h))
theorem inlX9 : ∀ w ∈ wsX90, w ∈ wsL_law := fun _ h => List.mem_append_left _ (List.mem_append_left _ (List.mem_append_left _ (List.mem_append_left _ (List.mem_append_left _ (List.mem_append_left _ (List.mem_append_left _ (List.mem_append_left _ (List.mem_append_left _ (List.mem_append_left _ (List.mem_append_left _ (List.mem_append_right _ h)))))))))))
theorem inlX10 : ∀ w ∈ wsX100, w ∈ wsL_law := fun _ h => List.mem_append_left _ (List.mem_append_left _ (List.mem_append_left _ (List.mem_append_left _ (List.mem_append_left _ (List.mem_append_left _ (List.mem_append_left _ (List.mem_append_left _ (List.mem_append_left _ (List.mem_append_left _ (List.mem_append_right _ h))))))))))
end
section
theorem dX0_init_0 : decode cX0_init 0 = .ok (.aload_n 0, 1) := by decide +kernel
theorem dX0_init_1 : decode cX0_init 1 = .ok (.invokespecial 3, 3) := by decide +kernel
theorem dX0_init_4 : decode cX0_init 4 = .ok (.aload_n 0, 1) := by decide +kernel
theorem dX0_init_5 : decode cX0_init 5 = .ok (.new 9, 3) := by decide +kernel
theorem dX0_init_8 : decode cX0_init 8 = .ok (.dup, 1) := by decide +kernel
theorem dX0_init_9 : decode cX0_init 9 = .ok (.invokespecial 11, 3) := by decide +kernel
theorem dX0_init_12 : decode cX0_init 12 = .ok (.putfield 12, 3) := by decide +kernel
theorem dX0_init_15 : decode cX0_init 15 = .ok (.aload_n 0, 1) := by decide +kernel
theorem dX0_init_16 : decode cX0_init 16 = .ok (.bipush 8, 2) := by decide +kernel
theorem dX0_init_18 : decode cX0_init 18 = .ok (.anewarray 18, 3) := by decide +kernel
theorem dX0_init_21 : decode cX0_init 21 = .ok (.putfield 20, 3) := by decide +kernel
theorem dX0_init_24 : decode cX0_init 24 = .ok (.aload_n 0, 1) := by decide +kernel
theorem dX0_init_25 : decode cX0_init 25 = .ok (.bipush 6, 2) := by decide +kernel
theorem dX0_init_27 : decode cX0_init 27 = .ok (.newarray .int, 2) := by decide +kernel
theorem dX0_init_29 : decode cX0_init 29 = .ok (.putfield 24, 3) := by decide +kernel
theorem dX0_init_32 : decode cX0_init 32 = .ok (.aload_n 0, 1) := by decide +kernel
theorem dX0_init_33 : decode cX0_init 33 = .ok (.bipush 8, 2) := by decide +kernel
theorem dX0_init_35 : decode cX0_init 35 = .ok (.newarray .int, 2) := by decide +kernel
theorem dX0_init_37 : decode cX0_init 37 = .ok (.putfield 28, 3) := by decide +kernel
theorem dX0_init_40 : decode cX0_init 40 = .ok (.iconst 0, 1) := by decide +kernel
theorem dX0_init_41 : decode cX0_init 41 = .ok (.istore_n 1, 1) := by decide +kernel
theorem dX0_init_42 : decode cX0_init 42 = .ok (.iload_n 1, 1) := by decide +kernel
theorem dX0_init_43 : decode cX0_init 43 = .ok (.aload_n 0, 1) := by decide +kernel
theorem dX0_init_44 : decode cX0_init 44 = .ok (.getfield 20, 3) := by decide +kernel
theorem dX0_init_47 : decode cX0_init 47 = .ok (.arraylength, 1) := by decide +kernel
theorem dX0_init_48 : decode cX0_init 48 = .ok (.if_icmp .ge 22, 3) := by decide +kernel
theorem dX0_init_51 : decode cX0_init 51 = .ok (.aload_n 0, 1) := by decide +kernel
theorem dX0_init_52 : decode cX0_init 52 = .ok (.getfield 20, 3) := by decide +kernel
theorem dX0_init_55 : decode cX0_init 55 = .ok (.iload_n 1, 1) := by decide +kernel
theorem dX0_init_56 : decode cX0_init 56 = .ok (.new 18, 3) := by decide +kernel
theorem dX0_init_59 : decode cX0_init 59 = .ok (.dup, 1) := by decide +kernel
theorem dX0_init_60 : decode cX0_init 60 = .ok (.invokespecial 31, 3) := by decide +kernel
theorem dX0_init_63 : decode cX0_init 63 = .ok (.aastore, 1) := by decide +kernel
theorem dX0_init_64 : decode cX0_init 64 = .ok (.iinc 1 1, 3) := by decide +kernel
theorem dX0_init_67 : decode cX0_init 67 = .ok (.goto (-25), 3) := by decide +kernel
theorem dX0_init_70 : decode cX0_init 70 = .ok (.iconst 0, 1) := by decide +kernel
theorem dX0_init_71 : decode cX0_init 71 = .ok (.istore_n 1, 1) := by decide +kernel
theorem dX0_init_72 : decode cX0_init 72 = .ok (.iload_n 1, 1) := by decide +kernel
theorem dX0_init_73 : decode cX0_init 73 = .ok (.aload_n 0, 1) := by decide +kernel
theorem dX0_init_74 : decode cX0_init 74 = .ok (.getfield 24, 3) := by decide +kernel
theorem dX0_init_77 : decode cX0_init 77 = .ok (.arraylength, 1) := by decide +kernel
theorem dX0_init_78 : decode cX0_init 78 = .ok (.if_icmp .ge 28, 3) := by decide +kernel
theorem dX0_init_81 : decode cX0_init 81 = .ok (.iload_n 1, 1) := by decide +kernel
theorem dX0_init_82 : decode cX0_init 82 = .ok (.getstatic 32, 3) := by decide +kernel
theorem dX0_init_85 : decode cX0_init 85 = .ok (.arraylength, 1) := by decide +kernel
theorem dX0_init_86 : decode cX0_init 86 = .ok (.if_icmp .ge 20, 3) := by decide +kernel
theorem dX0_init_89 : decode cX0_init 89 = .ok (.aload_n 0, 1) := by decide +kernel
theorem dX0_init_90 : decode cX0_init 90 = .ok (.getfield 24, 3) := by decide +kernel
theorem dX0_init_93 : decode cX0_init 93 = .ok (.iload_n 1, 1) := by decide +kernel
theorem dX0_init_94 : decode cX0_init 94 = .ok (.getstatic 32, 3) := by decide +kernel
theorem dX0_init_97 : decode cX0_init 97 = .ok (.iload_n 1, 1) := by decide +kernel
theorem dX0_init_98 : decode cX0_init 98 = .ok (.iaload, 1) := by decide +kernel
theorem dX0_init_99 : decode cX0_init 99 = .ok (.iastore, 1) := by decide +kernel
theorem dX0_init_100 : decode cX0_init 100 = .ok (.iinc 1 1, 3) := by decide +kernel
theorem dX0_init_103 : decode cX0_init 103 = .ok (.goto (-31), 3) := by decide +kernel
theorem dX0_init_106 : decode cX0_init 106 = .ok (.return_, 1) := by decide +kernel
theorem dX0_setting_0 : decode cX0_setting 0 = .ok (.iload_n 1, 1) := by decide +kernel
theorem dX0_setting_1 : decode cX0_setting 1 = .ok (.ifCond .lt 21, 3) := by decide +kernel
theorem dX0_setting_4 : decode cX0_setting 4 = .ok (.iload_n 1, 1) := by decide +kernel
theorem dX0_setting_5 : decode cX0_setting 5 = .ok (.aload_n 0, 1) := by decide +kernel
theorem dX0_setting_6 : decode cX0_setting 6 = .ok (.getfield 24, 3) := by decide +kernel
theorem dX0_setting_9 : decode cX0_setting 9 = .ok (.arraylength, 1) := by decide +kernel
theorem dX0_setting_10 : decode cX0_setting 10 = .ok (.if_icmp .ge 12, 3) := by decide +kernel
theorem dX0_setting_13 : decode cX0_setting 13 = .ok (.aload_n 0, 1) := by decide +kernel
theorem dX0_setting_14 : decode cX0_setting 14 = .ok (.getfield 24, 3) := by decide +kernel
theorem dX0_setting_17 : decode cX0_setting 17 = .ok (.iload_n 1, 1) := by decide +kernel
theorem dX0_setting_18 : decode cX0_setting 18 = .ok (.iaload, 1) := by decide +kernel
theorem dX0_setting_19 : decode cX0_setting 19 = .ok (.goto 4, 3) := by decide +kernel
theorem dX0_setting_22 : decode cX0_setting 22 = .ok (.iconst 0, 1) := by decide +kernel
theorem dX0_setting_23 : decode cX0_setting 23 = .ok (.ireturn, 1) := by decide +kernel
theorem dX0_changeSetting_0 : decode cX0_changeSetting 0 = .ok (.iload_n 1, 1) := by decide +kernel
theorem dX0_changeSetting_1 : decode cX0_changeSetting 1 = .ok (.ifCond .lt 19, 3) := by decide +kernel
theorem dX0_changeSetting_4 : decode cX0_changeSetting 4 = .ok (.iload_n 1, 1) := by decide +kernel
theorem dX0_changeSetting_5 : decode cX0_changeSetting 5 = .ok (.aload_n 0, 1) := by decide +kernel
theorem dX0_changeSetting_6 : decode cX0_changeSetting 6 = .ok (.getfield 24, 3) := by decide +kernel
theorem dX0_changeSetting_9 : decode cX0_changeSetting 9 = .ok (.arraylength, 1) := by decide +kernel
theorem dX0_changeSetting_10 : decode cX0_changeSetting 10 = .ok (.if_icmp .ge 10, 3) := by decide +kernel
theorem dX0_changeSetting_13 : decode cX0_changeSetting 13 = .ok (.aload_n 0, 1) := by decide +kernel
theorem dX0_changeSetting_14 : decode cX0_changeSetting 14 = .ok (.getfield 24, 3) := by decide +kernel
theorem dX0_changeSetting_17 : decode cX0_changeSetting 17 = .ok (.iload_n 1, 1) := by decide +kernel
theorem dX0_changeSetting_18 : decode cX0_changeSetting 18 = .ok (.iload_n 2, 1) := by decide +kernel
theorem dX0_changeSetting_19 : decode cX0_changeSetting 19 = .ok (.iastore, 1) := by decide +kernel
theorem dX0_changeSetting_20 : decode cX0_changeSetting 20 = .ok (.return_, 1) := by decide +kernel
theorem dX0_find_0 : decode cX0_find 0 = .ok (.iload_n 1, 1) := by decide +kernel
theorem dX0_find_1 : decode cX0_find 1 = .ok (.ifCond .lt 12, 3) := by decide +kernel
theorem dX0_find_4 : decode cX0_find 4 = .ok (.iload_n 1, 1) := by decide +kernel
theorem dX0_find_5 : decode cX0_find 5 = .ok (.aload_n 0, 1) := by decide +kernel
theorem dX0_find_6 : decode cX0_find 6 = .ok (.getfield 20, 3) := by decide +kernel
theorem dX0_find_9 : decode cX0_find 9 = .ok (.arraylength, 1) := by decide +kernel
theorem dX0_find_10 : decode cX0_find 10 = .ok (.if_icmp .lt 5, 3) := by decide +kernel
theorem dX0_find_13 : decode cX0_find 13 = .ok (.aconst_null, 1) := by decide +kernel
theorem dX0_find_14 : decode cX0_find 14 = .ok (.areturn, 1) := by decide +kernel
theorem dX0_find_15 : decode cX0_find 15 = .ok (.aload_n 0, 1) := by decide +kernel
theorem dX0_find_16 : decode cX0_find 16 = .ok (.getfield 20, 3) := by decide +kernel
theorem dX0_find_19 : decode cX0_find 19 = .ok (.iload_n 1, 1) := by decide +kernel
theorem dX0_find_20 : decode cX0_find 20 = .ok (.aaload, 1) := by decide +kernel
theorem dX0_find_21 : decode cX0_find 21 = .ok (.astore_n 2, 1) := by decide +kernel
theorem dX0_find_22 : decode cX0_find 22 = .ok (.aload_n 2, 1) := by decide +kernel
theorem dX0_find_23 : decode cX0_find 23 = .ok (.ifnull 14, 3) := by decide +kernel
theorem dX0_find_26 : decode cX0_find 26 = .ok (.aload_n 2, 1) := by decide +kernel
theorem dX0_find_27 : decode cX0_find 27 = .ok (.getfield 35, 3) := by decide +kernel
theorem dX0_find_30 : decode cX0_find 30 = .ok (.ifCond .eq 7, 3) := by decide +kernel
theorem dX0_find_33 : decode cX0_find 33 = .ok (.aload_n 2, 1) := by decide +kernel
theorem dX0_find_34 : decode cX0_find 34 = .ok (.goto 4, 3) := by decide +kernel
theorem dX0_find_37 : decode cX0_find 37 = .ok (.aconst_null, 1) := by decide +kernel
theorem dX0_find_38 : decode cX0_find 38 = .ok (.areturn, 1) := by decide +kernel
theorem dX0_allows_0 : decode cX0_allows 0 = .ok (.iload_n 1, 1) := by decide +kernel
theorem dX0_allows_1 : decode cX0_allows 1 = .ok (.iconst 4, 1) := by decide +kernel
theorem dX0_allows_2 : decode cX0_allows 2 = .ok (.if_icmp .ne 30, 3) := by decide +kernel
theorem dX0_allows_5 : decode cX0_allows 5 = .ok (.iload_n 2, 1) := by decide +kernel
theorem dX0_allows_6 : decode cX0_allows 6 = .ok (.iload_n 3, 1) := by decide +kernel
theorem dX0_allows_7 : decode cX0_allows 7 = .ok (.if_icmp .eq 23, 3) := by decide +kernel
theorem dX0_allows_10 : decode cX0_allows 10 = .ok (.aload_n 0, 1) := by decide +kernel
theorem dX0_allows_11 : decode cX0_allows 11 = .ok (.iload_n 2, 1) := by decide +kernel
theorem dX0_allows_12 : decode cX0_allows 12 = .ok (.invokevirtual 39, 3) := by decide +kernel
theorem dX0_allows_15 : decode cX0_allows 15 = .ok (.ifnull 15, 3) := by decide +kernel
theorem dX0_allows_18 : decode cX0_allows 18 = .ok (.aload_n 0, 1) := by decide +kernel
theorem dX0_allows_19 : decode cX0_allows 19 = .ok (.iload_n 3, 1) := by decide +kernel
theorem dX0_allows_20 : decode cX0_allows 20 = .ok (.invokevirtual 39, 3) := by decide +kernel
theorem dX0_allows_23 : decode cX0_allows 23 = .ok (.ifnull 7, 3) := by decide +kernel
theorem dX0_allows_26 : decode cX0_allows 26 = .ok (.iconst 1, 1) := by decide +kernel
theorem dX0_allows_27 : decode cX0_allows 27 = .ok (.goto 4, 3) := by decide +kernel
theorem dX0_allows_30 : decode cX0_allows 30 = .ok (.iconst 0, 1) := by decide +kernel
theorem dX0_allows_31 : decode cX0_allows 31 = .ok (.ireturn, 1) := by decide +kernel
theorem dX0_allows_32 : decode cX0_allows 32 = .ok (.iload_n 2, 1) := by decide +kernel
theorem dX0_allows_33 : decode cX0_allows 33 = .ok (.iload_n 3, 1) := by decide +kernel
theorem dX0_allows_34 : decode cX0_allows 34 = .ok (.if_icmp .gt 13, 3) := by decide +kernel
theorem dX0_allows_37 : decode cX0_allows 37 = .ok (.iload_n 3, 1) := by decide +kernel
theorem dX0_allows_38 : decode cX0_allows 38 = .ok (.bipush 12, 2) := by decide +kernel
theorem dX0_allows_40 : decode cX0_allows 40 = .ok (.if_icmp .ge 7, 3) := by decide +kernel
theorem dX0_allows_43 : decode cX0_allows 43 = .ok (.iconst 1, 1) := by decide +kernel
theorem dX0_allows_44 : decode cX0_allows 44 = .ok (.goto 4, 3) := by decide +kernel
theorem dX0_allows_47 : decode cX0_allows 47 = .ok (.iconst 0, 1) := by decide +kernel
theorem dX0_allows_48 : decode cX0_allows 48 = .ok (.ireturn, 1) := by decide +kernel
theorem dX0_addView_0 : decode cX0_addView 0 = .ok (.aload_n 0, 1) := by decide +kernel
theorem dX0_addView_1 : decode cX0_addView 1 = .ok (.getfield 43, 3) := by decide +kernel
theorem dX0_addView_4 : decode cX0_addView 4 = .ok (.istore 5, 2) := by decide +kernel
theorem dX0_addView_6 : decode cX0_addView 6 = .ok (.iload 5, 2) := by decide +kernel
theorem dX0_addView_8 : decode cX0_addView 8 = .ok (.ifCond .lt 23, 3) := by decide +kernel
theorem dX0_addView_11 : decode cX0_addView 11 = .ok (.iload 5, 2) := by decide +kernel
theorem dX0_addView_13 : decode cX0_addView 13 = .ok (.aload_n 0, 1) := by decide +kernel
theorem dX0_addView_14 : decode cX0_addView 14 = .ok (.getfield 20, 3) := by decide +kernel
theorem dX0_addView_17 : decode cX0_addView 17 = .ok (.arraylength, 1) := by decide +kernel
theorem dX0_addView_18 : decode cX0_addView 18 = .ok (.if_icmp .ge 13, 3) := by decide +kernel
theorem dX0_addView_21 : decode cX0_addView 21 = .ok (.aload_n 0, 1) := by decide +kernel
theorem dX0_addView_22 : decode cX0_addView 22 = .ok (.getfield 20, 3) := by decide +kernel
theorem dX0_addView_25 : decode cX0_addView 25 = .ok (.iload 5, 2) := by decide +kernel
theorem dX0_addView_27 : decode cX0_addView 27 = .ok (.aaload, 1) := by decide +kernel
theorem dX0_addView_28 : decode cX0_addView 28 = .ok (.ifnonnull 6, 3) := by decide +kernel
theorem dX0_addView_31 : decode cX0_addView 31 = .ok (.ldc 47, 2) := by decide +kernel
theorem dX0_addView_33 : decode cX0_addView 33 = .ok (.ireturn, 1) := by decide +kernel
theorem dX0_addView_34 : decode cX0_addView 34 = .ok (.aload_n 0, 1) := by decide +kernel
theorem dX0_addView_35 : decode cX0_addView 35 = .ok (.getfield 20, 3) := by decide +kernel
theorem dX0_addView_38 : decode cX0_addView 38 = .ok (.iload 5, 2) := by decide +kernel
theorem dX0_addView_40 : decode cX0_addView 40 = .ok (.aaload, 1) := by decide +kernel
theorem dX0_addView_41 : decode cX0_addView 41 = .ok (.astore 6, 2) := by decide +kernel
theorem dX0_addView_43 : decode cX0_addView 43 = .ok (.aload 6, 2) := by decide +kernel
theorem dX0_addView_45 : decode cX0_addView 45 = .ok (.iload_n 1, 1) := by decide +kernel
theorem dX0_addView_46 : decode cX0_addView 46 = .ok (.iload_n 2, 1) := by decide +kernel
theorem dX0_addView_47 : decode cX0_addView 47 = .ok (.iload_n 3, 1) := by decide +kernel
theorem dX0_addView_48 : decode cX0_addView 48 = .ok (.iload 4, 2) := by decide +kernel
theorem dX0_addView_50 : decode cX0_addView 50 = .ok (.invokevirtual 48, 3) := by decide +kernel
theorem dX0_addView_53 : decode cX0_addView 53 = .ok (.iload_n 1, 1) := by decide +kernel
theorem dX0_addView_54 : decode cX0_addView 54 = .ok (.iconst 4, 1) := by decide +kernel
theorem dX0_addView_55 : decode cX0_addView 55 = .ok (.if_icmp .ne 23, 3) := by decide +kernel
theorem dX0_addView_58 : decode cX0_addView 58 = .ok (.aload_n 0, 1) := by decide +kernel
theorem dX0_addView_59 : decode cX0_addView 59 = .ok (.aload 6, 2) := by decide +kernel
theorem dX0_addView_61 : decode cX0_addView 61 = .ok (.aload_n 0, 1) := by decide +kernel
theorem dX0_addView_62 : decode cX0_addView 62 = .ok (.iload_n 3, 1) := by decide +kernel
theorem dX0_addView_63 : decode cX0_addView 63 = .ok (.invokevirtual 39, 3) := by decide +kernel
theorem dX0_addView_66 : decode cX0_addView 66 = .ok (.aload_n 0, 1) := by decide +kernel
theorem dX0_addView_67 : decode cX0_addView 67 = .ok (.iload 4, 2) := by decide +kernel
theorem dX0_addView_69 : decode cX0_addView 69 = .ok (.invokevirtual 39, 3) := by decide +kernel
theorem dX0_addView_72 : decode cX0_addView 72 = .ok (.invokevirtual 52, 3) := by decide +kernel
theorem dX0_addView_75 : decode cX0_addView 75 = .ok (.goto 18, 3) := by decide +kernel
theorem dX0_addView_78 : decode cX0_addView 78 = .ok (.aload 6, 2) := by decide +kernel
theorem dX0_addView_80 : decode cX0_addView 80 = .ok (.aload 6, 2) := by decide +kernel
theorem dX0_addView_82 : decode cX0_addView 82 = .ok (.invokevirtual 56, 3) := by decide +kernel
theorem dX0_addView_85 : decode cX0_addView 85 = .ok (.aload 6, 2) := by decide +kernel
theorem dX0_addView_87 : decode cX0_addView 87 = .ok (.invokevirtual 60, 3) := by decide +kernel
theorem dX0_addView_90 : decode cX0_addView 90 = .ok (.invokevirtual 63, 3) := by decide +kernel
theorem dX0_addView_93 : decode cX0_addView 93 = .ok (.aload 6, 2) := by decide +kernel
theorem dX0_addView_95 : decode cX0_addView 95 = .ok (.aload_n 0, 1) := by decide +kernel
theorem dX0_addView_96 : decode cX0_addView 96 = .ok (.getfield 12, 3) := by decide +kernel
theorem dX0_addView_99 : decode cX0_addView 99 = .ok (.getfield 67, 3) := by decide +kernel
theorem dX0_addView_102 : decode cX0_addView 102 = .ok (.invokevirtual 70, 3) := by decide +kernel
theorem dX0_addView_105 : decode cX0_addView 105 = .ok (.aload_n 0, 1) := by decide +kernel
theorem dX0_addView_106 : decode cX0_addView 106 = .ok (.iload 5, 2) := by decide +kernel
theorem dX0_addView_108 : decode cX0_addView 108 = .ok (.iconst 1, 1) := by decide +kernel
theorem dX0_addView_109 : decode cX0_addView 109 = .ok (.iadd, 1) := by decide +kernel
theorem dX0_addView_110 : decode cX0_addView 110 = .ok (.putfield 43, 3) := by decide +kernel
theorem dX0_addView_113 : decode cX0_addView 113 = .ok (.iload 5, 2) := by decide +kernel
theorem dX0_addView_115 : decode cX0_addView 115 = .ok (.ireturn, 1) := by decide +kernel
theorem dX0_noteParts_0 : decode cX0_noteParts 0 = .ok (.aload_n 2, 1) := by decide +kernel
theorem dX0_noteParts_1 : decode cX0_noteParts 1 = .ok (.ifnull 29, 3) := by decide +kernel
theorem dX0_noteParts_4 : decode cX0_noteParts 4 = .ok (.aload_n 3, 1) := by decide +kernel
theorem dX0_noteParts_5 : decode cX0_noteParts 5 = .ok (.ifnull 25, 3) := by decide +kernel
theorem dX0_noteParts_8 : decode cX0_noteParts 8 = .ok (.aload_n 1, 1) := by decide +kernel
theorem dX0_noteParts_9 : decode cX0_noteParts 9 = .ok (.aload_n 2, 1) := by decide +kernel
theorem dX0_noteParts_10 : decode cX0_noteParts 10 = .ok (.getfield 74, 3) := by decide +kernel
theorem dX0_noteParts_13 : decode cX0_noteParts 13 = .ok (.aload_n 3, 1) := by decide +kernel
theorem dX0_noteParts_14 : decode cX0_noteParts 14 = .ok (.getfield 74, 3) := by decide +kernel
theorem dX0_noteParts_17 : decode cX0_noteParts 17 = .ok (.ior, 1) := by decide +kernel
theorem dX0_noteParts_18 : decode cX0_noteParts 18 = .ok (.aload_n 2, 1) := by decide +kernel
theorem dX0_noteParts_19 : decode cX0_noteParts 19 = .ok (.getfield 77, 3) := by decide +kernel
theorem dX0_noteParts_22 : decode cX0_noteParts 22 = .ok (.aload_n 3, 1) := by decide +kernel
theorem dX0_noteParts_23 : decode cX0_noteParts 23 = .ok (.getfield 77, 3) := by decide +kernel
theorem dX0_noteParts_26 : decode cX0_noteParts 26 = .ok (.iadd, 1) := by decide +kernel
theorem dX0_noteParts_27 : decode cX0_noteParts 27 = .ok (.invokevirtual 63, 3) := by decide +kernel
theorem dX0_noteParts_30 : decode cX0_noteParts 30 = .ok (.return_, 1) := by decide +kernel
theorem dX0_isPart_0 : decode cX0_isPart 0 = .ok (.iconst 0, 1) := by decide +kernel
theorem dX0_isPart_1 : decode cX0_isPart 1 = .ok (.istore_n 2, 1) := by decide +kernel
theorem dX0_isPart_2 : decode cX0_isPart 2 = .ok (.iload_n 2, 1) := by decide +kernel
theorem dX0_isPart_3 : decode cX0_isPart 3 = .ok (.bipush 8, 2) := by decide +kernel
theorem dX0_isPart_5 : decode cX0_isPart 5 = .ok (.if_icmp .ge 29, 3) := by decide +kernel
theorem dX0_isPart_8 : decode cX0_isPart 8 = .ok (.aload_n 0, 1) := by decide +kernel
theorem dX0_isPart_9 : decode cX0_isPart 9 = .ok (.iload_n 2, 1) := by decide +kernel
theorem dX0_isPart_10 : decode cX0_isPart 10 = .ok (.invokevirtual 39, 3) := by decide +kernel
theorem dX0_isPart_13 : decode cX0_isPart 13 = .ok (.astore_n 3, 1) := by decide +kernel
theorem dX0_isPart_14 : decode cX0_isPart 14 = .ok (.aload_n 3, 1) := by decide +kernel
theorem dX0_isPart_15 : decode cX0_isPart 15 = .ok (.ifnull 13, 3) := by decide +kernel
theorem dX0_isPart_18 : decode cX0_isPart 18 = .ok (.aload_n 3, 1) := by decide +kernel
theorem dX0_isPart_19 : decode cX0_isPart 19 = .ok (.iload_n 1, 1) := by decide +kernel
theorem dX0_isPart_20 : decode cX0_isPart 20 = .ok (.invokevirtual 80, 3) := by decide +kernel
theorem dX0_isPart_23 : decode cX0_isPart 23 = .ok (.ifCond .eq 5, 3) := by decide +kernel
theorem dX0_isPart_26 : decode cX0_isPart 26 = .ok (.iconst 1, 1) := by decide +kernel
theorem dX0_isPart_27 : decode cX0_isPart 27 = .ok (.ireturn, 1) := by decide +kernel
theorem dX0_isPart_28 : decode cX0_isPart 28 = .ok (.iinc 2 1, 3) := by decide +kernel
theorem dX0_isPart_31 : decode cX0_isPart 31 = .ok (.goto (-29), 3) := by decide +kernel
theorem dX0_isPart_34 : decode cX0_isPart 34 = .ok (.iconst 0, 1) := by decide +kernel
theorem dX0_isPart_35 : decode cX0_isPart 35 = .ok (.ireturn, 1) := by decide +kernel
theorem dX0_setOf_0 : decode cX0_setOf 0 = .ok (.iconst 0, 1) := by decide +kernel
theorem dX0_setOf_1 : decode cX0_setOf 1 = .ok (.istore_n 2, 1) := by decide +kernel
theorem dX0_setOf_2 : decode cX0_setOf 2 = .ok (.iconst 0, 1) := by decide +kernel
theorem dX0_setOf_3 : decode cX0_setOf 3 = .ok (.istore_n 3, 1) := by decide +kernel
theorem dX0_setOf_4 : decode cX0_setOf 4 = .ok (.iload_n 3, 1) := by decide +kernel
theorem dX0_setOf_5 : decode cX0_setOf 5 = .ok (.bipush 8, 2) := by decide +kernel
theorem dX0_setOf_7 : decode cX0_setOf 7 = .ok (.if_icmp .ge 37, 3) := by decide +kernel
theorem dX0_setOf_10 : decode cX0_setOf 10 = .ok (.aload_n 0, 1) := by decide +kernel
theorem dX0_setOf_11 : decode cX0_setOf 11 = .ok (.iload_n 3, 1) := by decide +kernel
theorem dX0_setOf_12 : decode cX0_setOf 12 = .ok (.invokevirtual 39, 3) := by decide +kernel
theorem dX0_setOf_15 : decode cX0_setOf 15 = .ok (.astore 4, 2) := by decide +kernel
theorem dX0_setOf_17 : decode cX0_setOf 17 = .ok (.aload 4, 2) := by decide +kernel
theorem dX0_setOf_19 : decode cX0_setOf 19 = .ok (.ifnull 19, 3) := by decide +kernel
theorem dX0_setOf_22 : decode cX0_setOf 22 = .ok (.aload_n 0, 1) := by decide +kernel
theorem dX0_setOf_23 : decode cX0_setOf 23 = .ok (.aload 4, 2) := by decide +kernel
theorem dX0_setOf_25 : decode cX0_setOf 25 = .ok (.iload_n 1, 1) := by decide +kernel
theorem dX0_setOf_26 : decode cX0_setOf 26 = .ok (.invokevirtual 84, 3) := by decide +kernel
theorem dX0_setOf_29 : decode cX0_setOf 29 = .ok (.ifCond .eq 9, 3) := by decide +kernel
theorem dX0_setOf_32 : decode cX0_setOf 32 = .ok (.iload_n 2, 1) := by decide +kernel
theorem dX0_setOf_33 : decode cX0_setOf 33 = .ok (.iconst 1, 1) := by decide +kernel
theorem dX0_setOf_34 : decode cX0_setOf 34 = .ok (.iload_n 3, 1) := by decide +kernel
theorem dX0_setOf_35 : decode cX0_setOf 35 = .ok (.ishl, 1) := by decide +kernel
theorem dX0_setOf_36 : decode cX0_setOf 36 = .ok (.ior, 1) := by decide +kernel
theorem dX0_setOf_37 : decode cX0_setOf 37 = .ok (.istore_n 2, 1) := by decide +kernel
theorem dX0_setOf_38 : decode cX0_setOf 38 = .ok (.iinc 3 1, 3) := by decide +kernel
theorem dX0_setOf_41 : decode cX0_setOf 41 = .ok (.goto (-37), 3) := by decide +kernel
theorem dX0_setOf_44 : decode cX0_setOf 44 = .ok (.iload_n 2, 1) := by decide +kernel
theorem dX0_setOf_45 : decode cX0_setOf 45 = .ok (.ireturn, 1) := by decide +kernel
theorem dX0_belongs_0 : decode cX0_belongs 0 = .ok (.iload_n 2, 1) := by decide +kernel
theorem dX0_belongs_1 : decode cX0_belongs 1 = .ok (.tableswitch 84 1 4 #[31, 36, 49, 63], 31) := by decide +kernel
theorem dX0_belongs_32 : decode cX0_belongs 32 = .ok (.aload_n 1, 1) := by decide +kernel
theorem dX0_belongs_33 : decode cX0_belongs 33 = .ok (.getfield 88, 3) := by decide +kernel
theorem dX0_belongs_36 : decode cX0_belongs 36 = .ok (.ireturn, 1) := by decide +kernel
theorem dX0_belongs_37 : decode cX0_belongs 37 = .ok (.aload_n 1, 1) := by decide +kernel
theorem dX0_belongs_38 : decode cX0_belongs 38 = .ok (.getfield 88, 3) := by decide +kernel
theorem dX0_belongs_41 : decode cX0_belongs 41 = .ok (.ifCond .ne 7, 3) := by decide +kernel
theorem dX0_belongs_44 : decode cX0_belongs 44 = .ok (.iconst 1, 1) := by decide +kernel
theorem dX0_belongs_45 : decode cX0_belongs 45 = .ok (.goto 4, 3) := by decide +kernel
theorem dX0_belongs_48 : decode cX0_belongs 48 = .ok (.iconst 0, 1) := by decide +kernel
theorem dX0_belongs_49 : decode cX0_belongs 49 = .ok (.ireturn, 1) := by decide +kernel
theorem dX0_belongs_50 : decode cX0_belongs 50 = .ok (.aload_n 0, 1) := by decide +kernel
theorem dX0_belongs_51 : decode cX0_belongs 51 = .ok (.aload_n 1, 1) := by decide +kernel
theorem dX0_belongs_52 : decode cX0_belongs 52 = .ok (.invokevirtual 91, 3) := by decide +kernel
theorem dX0_belongs_55 : decode cX0_belongs 55 = .ok (.ifCond .le 7, 3) := by decide +kernel
theorem dX0_belongs_58 : decode cX0_belongs 58 = .ok (.iconst 1, 1) := by decide +kernel
theorem dX0_belongs_59 : decode cX0_belongs 59 = .ok (.goto 4, 3) := by decide +kernel
theorem dX0_belongs_62 : decode cX0_belongs 62 = .ok (.iconst 0, 1) := by decide +kernel
theorem dX0_belongs_63 : decode cX0_belongs 63 = .ok (.ireturn, 1) := by decide +kernel
theorem dX0_belongs_64 : decode cX0_belongs 64 = .ok (.aload_n 1, 1) := by decide +kernel
theorem dX0_belongs_65 : decode cX0_belongs 65 = .ok (.getfield 88, 3) := by decide +kernel
theorem dX0_belongs_68 : decode cX0_belongs 68 = .ok (.ifCond .ne 15, 3) := by decide +kernel
theorem dX0_belongs_71 : decode cX0_belongs 71 = .ok (.aload_n 0, 1) := by decide +kernel
theorem dX0_belongs_72 : decode cX0_belongs 72 = .ok (.aload_n 1, 1) := by decide +kernel
theorem dX0_belongs_73 : decode cX0_belongs 73 = .ok (.invokevirtual 95, 3) := by decide +kernel
theorem dX0_belongs_76 : decode cX0_belongs 76 = .ok (.ifCond .ne 7, 3) := by decide +kernel
theorem dX0_belongs_79 : decode cX0_belongs 79 = .ok (.iconst 1, 1) := by decide +kernel
theorem dX0_belongs_80 : decode cX0_belongs 80 = .ok (.goto 4, 3) := by decide +kernel
theorem dX0_belongs_83 : decode cX0_belongs 83 = .ok (.iconst 0, 1) := by decide +kernel
theorem dX0_belongs_84 : decode cX0_belongs 84 = .ok (.ireturn, 1) := by decide +kernel
theorem dX0_belongs_85 : decode cX0_belongs 85 = .ok (.iconst 1, 1) := by decide +kernel
theorem dX0_belongs_86 : decode cX0_belongs 86 = .ok (.ireturn, 1) := by decide +kernel
theorem dX0_concernedBy_0 : decode cX0_concernedBy 0 = .ok (.iconst 0, 1) := by decide +kernel
theorem dX0_concernedBy_1 : decode cX0_concernedBy 1 = .ok (.istore_n 2, 1) := by decide +kernel
theorem dX0_concernedBy_2 : decode cX0_concernedBy 2 = .ok (.iconst 0, 1) := by decide +kernel
theorem dX0_concernedBy_3 : decode cX0_concernedBy 3 = .ok (.istore_n 3, 1) := by decide +kernel
theorem dX0_concernedBy_4 : decode cX0_concernedBy 4 = .ok (.iload_n 3, 1) := by decide +kernel
theorem dX0_concernedBy_5 : decode cX0_concernedBy 5 = .ok (.bipush 8, 2) := by decide +kernel
theorem dX0_concernedBy_7 : decode cX0_concernedBy 7 = .ok (.if_icmp .ge 36, 3) := by decide +kernel
theorem dX0_concernedBy_10 : decode cX0_concernedBy 10 = .ok (.aload_n 0, 1) := by decide +kernel
theorem dX0_concernedBy_11 : decode cX0_concernedBy 11 = .ok (.iload_n 3, 1) := by decide +kernel
theorem dX0_concernedBy_12 : decode cX0_concernedBy 12 = .ok (.invokevirtual 39, 3) := by decide +kernel
theorem dX0_concernedBy_15 : decode cX0_concernedBy 15 = .ok (.astore 4, 2) := by decide +kernel
theorem dX0_concernedBy_17 : decode cX0_concernedBy 17 = .ok (.aload 4, 2) := by decide +kernel
theorem dX0_concernedBy_19 : decode cX0_concernedBy 19 = .ok (.ifnull 18, 3) := by decide +kernel
theorem dX0_concernedBy_22 : decode cX0_concernedBy 22 = .ok (.aload 4, 2) := by decide +kernel
theorem dX0_concernedBy_24 : decode cX0_concernedBy 24 = .ok (.iload_n 1, 1) := by decide +kernel
theorem dX0_concernedBy_25 : decode cX0_concernedBy 25 = .ok (.invokevirtual 98, 3) := by decide +kernel
theorem dX0_concernedBy_28 : decode cX0_concernedBy 28 = .ok (.ifCond .eq 9, 3) := by decide +kernel
theorem dX0_concernedBy_31 : decode cX0_concernedBy 31 = .ok (.iload_n 2, 1) := by decide +kernel
theorem dX0_concernedBy_32 : decode cX0_concernedBy 32 = .ok (.iconst 1, 1) := by decide +kernel
theorem dX0_concernedBy_33 : decode cX0_concernedBy 33 = .ok (.iload_n 3, 1) := by decide +kernel
theorem dX0_concernedBy_34 : decode cX0_concernedBy 34 = .ok (.ishl, 1) := by decide +kernel
theorem dX0_concernedBy_35 : decode cX0_concernedBy 35 = .ok (.ior, 1) := by decide +kernel
theorem dX0_concernedBy_36 : decode cX0_concernedBy 36 = .ok (.istore_n 2, 1) := by decide +kernel
theorem dX0_concernedBy_37 : decode cX0_concernedBy 37 = .ok (.iinc 3 1, 3) := by decide +kernel
theorem dX0_concernedBy_40 : decode cX0_concernedBy 40 = .ok (.goto (-36), 3) := by decide +kernel
theorem dX0_concernedBy_43 : decode cX0_concernedBy 43 = .ok (.iload_n 2, 1) := by decide +kernel
theorem dX0_concernedBy_44 : decode cX0_concernedBy 44 = .ok (.ireturn, 1) := by decide +kernel
theorem dX0_arrears_0 : decode cX0_arrears 0 = .ok (.aload_n 1, 1) := by decide +kernel
theorem dX0_arrears_1 : decode cX0_arrears 1 = .ok (.getfield 88, 3) := by decide +kernel
theorem dX0_arrears_4 : decode cX0_arrears 4 = .ok (.ifCond .eq 5, 3) := by decide +kernel
theorem dX0_arrears_7 : decode cX0_arrears 7 = .ok (.iconst 0, 1) := by decide +kernel
theorem dX0_arrears_8 : decode cX0_arrears 8 = .ok (.ireturn, 1) := by decide +kernel
theorem dX0_arrears_9 : decode cX0_arrears 9 = .ok (.iconst 0, 1) := by decide +kernel
theorem dX0_arrears_10 : decode cX0_arrears 10 = .ok (.istore_n 2, 1) := by decide +kernel
theorem dX0_arrears_11 : decode cX0_arrears 11 = .ok (.aload_n 1, 1) := by decide +kernel
theorem dX0_arrears_12 : decode cX0_arrears 12 = .ok (.getfield 101, 3) := by decide +kernel
theorem dX0_arrears_15 : decode cX0_arrears 15 = .ok (.istore_n 3, 1) := by decide +kernel
theorem dX0_arrears_16 : decode cX0_arrears 16 = .ok (.iload_n 3, 1) := by decide +kernel
theorem dX0_arrears_17 : decode cX0_arrears 17 = .ok (.aload_n 0, 1) := by decide +kernel
theorem dX0_arrears_18 : decode cX0_arrears 18 = .ok (.getfield 12, 3) := by decide +kernel
theorem dX0_arrears_21 : decode cX0_arrears 21 = .ok (.getfield 67, 3) := by decide +kernel
theorem dX0_arrears_24 : decode cX0_arrears 24 = .ok (.if_icmp .ge 27, 3) := by decide +kernel
theorem dX0_arrears_27 : decode cX0_arrears 27 = .ok (.aload_n 1, 1) := by decide +kernel
theorem dX0_arrears_28 : decode cX0_arrears 28 = .ok (.aload_n 0, 1) := by decide +kernel
theorem dX0_arrears_29 : decode cX0_arrears 29 = .ok (.getfield 12, 3) := by decide +kernel
theorem dX0_arrears_32 : decode cX0_arrears 32 = .ok (.iload_n 3, 1) := by decide +kernel
theorem dX0_arrears_33 : decode cX0_arrears 33 = .ok (.invokevirtual 104, 3) := by decide +kernel
theorem dX0_arrears_36 : decode cX0_arrears 36 = .ok (.invokevirtual 98, 3) := by decide +kernel
theorem dX0_arrears_39 : decode cX0_arrears 39 = .ok (.ifCond .eq 6, 3) := by decide +kernel
theorem dX0_arrears_42 : decode cX0_arrears 42 = .ok (.iinc 2 1, 3) := by decide +kernel
theorem dX0_arrears_45 : decode cX0_arrears 45 = .ok (.iinc 3 1, 3) := by decide +kernel
theorem dX0_arrears_48 : decode cX0_arrears 48 = .ok (.goto (-32), 3) := by decide +kernel
theorem dX0_arrears_51 : decode cX0_arrears 51 = .ok (.iload_n 2, 1) := by decide +kernel
theorem dX0_arrears_52 : decode cX0_arrears 52 = .ok (.ireturn, 1) := by decide +kernel
theorem dX0_priceOfArrear_0 : decode cX0_priceOfArrear 0 = .ok (.aload_n 1, 1) := by decide +kernel
theorem dX0_priceOfArrear_1 : decode cX0_priceOfArrear 1 = .ok (.invokevirtual 108, 3) := by decide +kernel
theorem dX0_priceOfArrear_4 : decode cX0_priceOfArrear 4 = .ok (.ifCond .eq 11, 3) := by decide +kernel
theorem dX0_priceOfArrear_7 : decode cX0_priceOfArrear 7 = .ok (.aload_n 0, 1) := by decide +kernel
theorem dX0_priceOfArrear_8 : decode cX0_priceOfArrear 8 = .ok (.iconst 1, 1) := by decide +kernel
theorem dX0_priceOfArrear_9 : decode cX0_priceOfArrear 9 = .ok (.invokevirtual 112, 3) := by decide +kernel
theorem dX0_priceOfArrear_12 : decode cX0_priceOfArrear 12 = .ok (.goto 10, 3) := by decide +kernel
theorem dX0_priceOfArrear_15 : decode cX0_priceOfArrear 15 = .ok (.iconst 2, 1) := by decide +kernel
theorem dX0_priceOfArrear_16 : decode cX0_priceOfArrear 16 = .ok (.aload_n 0, 1) := by decide +kernel
theorem dX0_priceOfArrear_17 : decode cX0_priceOfArrear 17 = .ok (.iconst 1, 1) := by decide +kernel
theorem dX0_priceOfArrear_18 : decode cX0_priceOfArrear 18 = .ok (.invokevirtual 112, 3) := by decide +kernel
theorem dX0_priceOfArrear_21 : decode cX0_priceOfArrear 21 = .ok (.imul, 1) := by decide +kernel
theorem dX0_priceOfArrear_22 : decode cX0_priceOfArrear 22 = .ok (.ireturn, 1) := by decide +kernel
theorem dX0_need_0 : decode cX0_need 0 = .ok (.aload_n 1, 1) := by decide +kernel
theorem dX0_need_1 : decode cX0_need 1 = .ok (.getfield 115, 3) := by decide +kernel
theorem dX0_need_4 : decode cX0_need 4 = .ok (.aload_n 0, 1) := by decide +kernel
theorem dX0_need_5 : decode cX0_need 5 = .ok (.aload_n 1, 1) := by decide +kernel
theorem dX0_need_6 : decode cX0_need 6 = .ok (.invokevirtual 91, 3) := by decide +kernel
theorem dX0_need_9 : decode cX0_need 9 = .ok (.aload_n 0, 1) := by decide +kernel
theorem dX0_need_10 : decode cX0_need 10 = .ok (.aload_n 1, 1) := by decide +kernel
theorem dX0_need_11 : decode cX0_need 11 = .ok (.invokevirtual 118, 3) := by decide +kernel
theorem dX0_need_14 : decode cX0_need 14 = .ok (.imul, 1) := by decide +kernel
theorem dX0_need_15 : decode cX0_need 15 = .ok (.iadd, 1) := by decide +kernel
theorem dX0_need_16 : decode cX0_need 16 = .ok (.ireturn, 1) := by decide +kernel
theorem dX0_interest_0 : decode cX0_interest 0 = .ok (.aload_n 0, 1) := by decide +kernel
theorem dX0_interest_1 : decode cX0_interest 1 = .ok (.iconst 0, 1) := by decide +kernel
theorem dX0_interest_2 : decode cX0_interest 2 = .ok (.invokevirtual 112, 3) := by decide +kernel
theorem dX0_interest_5 : decode cX0_interest 5 = .ok (.aload_n 0, 1) := by decide +kernel
theorem dX0_interest_6 : decode cX0_interest 6 = .ok (.aload_n 1, 1) := by decide +kernel
theorem dX0_interest_7 : decode cX0_interest 7 = .ok (.invokevirtual 91, 3) := by decide +kernel
theorem dX0_interest_10 : decode cX0_interest 10 = .ok (.imul, 1) := by decide +kernel
theorem dX0_interest_11 : decode cX0_interest 11 = .ok (.ireturn, 1) := by decide +kernel
theorem dX0_foundingCost_0 : decode cX0_foundingCost 0 = .ok (.iconst 3, 1) := by decide +kernel
theorem dX0_foundingCost_1 : decode cX0_foundingCost 1 = .ok (.aload_n 0, 1) := by decide +kernel
theorem dX0_foundingCost_2 : decode cX0_foundingCost 2 = .ok (.iconst 1, 1) := by decide +kernel
theorem dX0_foundingCost_3 : decode cX0_foundingCost 3 = .ok (.invokevirtual 112, 3) := by decide +kernel
theorem dX0_foundingCost_6 : decode cX0_foundingCost 6 = .ok (.imul, 1) := by decide +kernel
theorem dX0_foundingCost_7 : decode cX0_foundingCost 7 = .ok (.aload_n 1, 1) := by decide +kernel
theorem dX0_foundingCost_8 : decode cX0_foundingCost 8 = .ok (.getfield 77, 3) := by decide +kernel
theorem dX0_foundingCost_11 : decode cX0_foundingCost 11 = .ok (.imul, 1) := by decide +kernel
theorem dX0_foundingCost_12 : decode cX0_foundingCost 12 = .ok (.ireturn, 1) := by decide +kernel
theorem dX0_allDebts_0 : decode cX0_allDebts 0 = .ok (.iconst 0, 1) := by decide +kernel
theorem dX0_allDebts_1 : decode cX0_allDebts 1 = .ok (.istore_n 1, 1) := by decide +kernel
theorem dX0_allDebts_2 : decode cX0_allDebts 2 = .ok (.iconst 0, 1) := by decide +kernel
theorem dX0_allDebts_3 : decode cX0_allDebts 3 = .ok (.istore_n 2, 1) := by decide +kernel
theorem dX0_allDebts_4 : decode cX0_allDebts 4 = .ok (.iload_n 2, 1) := by decide +kernel
theorem dX0_allDebts_5 : decode cX0_allDebts 5 = .ok (.bipush 8, 2) := by decide +kernel
theorem dX0_allDebts_7 : decode cX0_allDebts 7 = .ok (.if_icmp .ge 26, 3) := by decide +kernel
theorem dX0_allDebts_10 : decode cX0_allDebts 10 = .ok (.aload_n 0, 1) := by decide +kernel
theorem dX0_allDebts_11 : decode cX0_allDebts 11 = .ok (.iload_n 2, 1) := by decide +kernel
theorem dX0_allDebts_12 : decode cX0_allDebts 12 = .ok (.invokevirtual 39, 3) := by decide +kernel
theorem dX0_allDebts_15 : decode cX0_allDebts 15 = .ok (.astore_n 3, 1) := by decide +kernel
theorem dX0_allDebts_16 : decode cX0_allDebts 16 = .ok (.aload_n 3, 1) := by decide +kernel
theorem dX0_allDebts_17 : decode cX0_allDebts 17 = .ok (.ifnull 10, 3) := by decide +kernel
theorem dX0_allDebts_20 : decode cX0_allDebts 20 = .ok (.iload_n 1, 1) := by decide +kernel
theorem dX0_allDebts_21 : decode cX0_allDebts 21 = .ok (.aload_n 3, 1) := by decide +kernel
theorem dX0_allDebts_22 : decode cX0_allDebts 22 = .ok (.getfield 115, 3) := by decide +kernel
theorem dX0_allDebts_25 : decode cX0_allDebts 25 = .ok (.iadd, 1) := by decide +kernel
theorem dX0_allDebts_26 : decode cX0_allDebts 26 = .ok (.istore_n 1, 1) := by decide +kernel
theorem dX0_allDebts_27 : decode cX0_allDebts 27 = .ok (.iinc 2 1, 3) := by decide +kernel
theorem dX0_allDebts_30 : decode cX0_allDebts 30 = .ok (.goto (-26), 3) := by decide +kernel
theorem dX0_allDebts_33 : decode cX0_allDebts 33 = .ok (.iload_n 1, 1) := by decide +kernel
theorem dX0_allDebts_34 : decode cX0_allDebts 34 = .ok (.ireturn, 1) := by decide +kernel
theorem dX0_allNeeds_0 : decode cX0_allNeeds 0 = .ok (.iconst 0, 1) := by decide +kernel
theorem dX0_allNeeds_1 : decode cX0_allNeeds 1 = .ok (.istore_n 1, 1) := by decide +kernel
theorem dX0_allNeeds_2 : decode cX0_allNeeds 2 = .ok (.iconst 0, 1) := by decide +kernel
theorem dX0_allNeeds_3 : decode cX0_allNeeds 3 = .ok (.istore_n 2, 1) := by decide +kernel
theorem dX0_allNeeds_4 : decode cX0_allNeeds 4 = .ok (.iload_n 2, 1) := by decide +kernel
theorem dX0_allNeeds_5 : decode cX0_allNeeds 5 = .ok (.bipush 8, 2) := by decide +kernel
theorem dX0_allNeeds_7 : decode cX0_allNeeds 7 = .ok (.if_icmp .ge 27, 3) := by decide +kernel
theorem dX0_allNeeds_10 : decode cX0_allNeeds 10 = .ok (.aload_n 0, 1) := by decide +kernel
theorem dX0_allNeeds_11 : decode cX0_allNeeds 11 = .ok (.iload_n 2, 1) := by decide +kernel
theorem dX0_allNeeds_12 : decode cX0_allNeeds 12 = .ok (.invokevirtual 39, 3) := by decide +kernel
theorem dX0_allNeeds_15 : decode cX0_allNeeds 15 = .ok (.astore_n 3, 1) := by decide +kernel
theorem dX0_allNeeds_16 : decode cX0_allNeeds 16 = .ok (.aload_n 3, 1) := by decide +kernel
theorem dX0_allNeeds_17 : decode cX0_allNeeds 17 = .ok (.ifnull 11, 3) := by decide +kernel
theorem dX0_allNeeds_20 : decode cX0_allNeeds 20 = .ok (.iload_n 1, 1) := by decide +kernel
theorem dX0_allNeeds_21 : decode cX0_allNeeds 21 = .ok (.aload_n 0, 1) := by decide +kernel
theorem dX0_allNeeds_22 : decode cX0_allNeeds 22 = .ok (.aload_n 3, 1) := by decide +kernel
theorem dX0_allNeeds_23 : decode cX0_allNeeds 23 = .ok (.invokevirtual 95, 3) := by decide +kernel
theorem dX0_allNeeds_26 : decode cX0_allNeeds 26 = .ok (.iadd, 1) := by decide +kernel
theorem dX0_allNeeds_27 : decode cX0_allNeeds 27 = .ok (.istore_n 1, 1) := by decide +kernel
theorem dX0_allNeeds_28 : decode cX0_allNeeds 28 = .ok (.iinc 2 1, 3) := by decide +kernel
theorem dX0_allNeeds_31 : decode cX0_allNeeds 31 = .ok (.goto (-27), 3) := by decide +kernel
theorem dX0_allNeeds_34 : decode cX0_allNeeds 34 = .ok (.iload_n 1, 1) := by decide +kernel
theorem dX0_allNeeds_35 : decode cX0_allNeeds 35 = .ok (.ireturn, 1) := by decide +kernel
theorem dX0_receive_0 : decode cX0_receive 0 = .ok (.aload_n 0, 1) := by decide +kernel
theorem dX0_receive_1 : decode cX0_receive 1 = .ok (.dup, 1) := by decide +kernel
theorem dX0_receive_2 : decode cX0_receive 2 = .ok (.getfield 121, 3) := by decide +kernel
theorem dX0_receive_5 : decode cX0_receive 5 = .ok (.iload_n 1, 1) := by decide +kernel
theorem dX0_receive_6 : decode cX0_receive 6 = .ok (.iadd, 1) := by decide +kernel
theorem dX0_receive_7 : decode cX0_receive 7 = .ok (.putfield 121, 3) := by decide +kernel
theorem dX0_receive_10 : decode cX0_receive 10 = .ok (.aload_n 0, 1) := by decide +kernel
theorem dX0_receive_11 : decode cX0_receive 11 = .ok (.dup, 1) := by decide +kernel
theorem dX0_receive_12 : decode cX0_receive 12 = .ok (.getfield 124, 3) := by decide +kernel
theorem dX0_receive_15 : decode cX0_receive 15 = .ok (.iload_n 1, 1) := by decide +kernel
theorem dX0_receive_16 : decode cX0_receive 16 = .ok (.iadd, 1) := by decide +kernel
theorem dX0_receive_17 : decode cX0_receive 17 = .ok (.putfield 124, 3) := by decide +kernel
theorem dX0_receive_20 : decode cX0_receive 20 = .ok (.return_, 1) := by decide +kernel
theorem dX0_passTick_0 : decode cX0_passTick 0 = .ok (.iconst 0, 1) := by decide +kernel
theorem dX0_passTick_1 : decode cX0_passTick 1 = .ok (.istore_n 1, 1) := by decide +kernel
theorem dX0_passTick_2 : decode cX0_passTick 2 = .ok (.iconst 0, 1) := by decide +kernel
theorem dX0_passTick_3 : decode cX0_passTick 3 = .ok (.istore_n 2, 1) := by decide +kernel
theorem dX0_passTick_4 : decode cX0_passTick 4 = .ok (.iload_n 2, 1) := by decide +kernel
theorem dX0_passTick_5 : decode cX0_passTick 5 = .ok (.bipush 8, 2) := by decide +kernel
theorem dX0_passTick_7 : decode cX0_passTick 7 = .ok (.if_icmp .ge 78, 3) := by decide +kernel
theorem dX0_passTick_10 : decode cX0_passTick 10 = .ok (.aload_n 0, 1) := by decide +kernel
theorem dX0_passTick_11 : decode cX0_passTick 11 = .ok (.iload_n 2, 1) := by decide +kernel
theorem dX0_passTick_12 : decode cX0_passTick 12 = .ok (.invokevirtual 39, 3) := by decide +kernel
theorem dX0_passTick_15 : decode cX0_passTick 15 = .ok (.astore_n 3, 1) := by decide +kernel
theorem dX0_passTick_16 : decode cX0_passTick 16 = .ok (.aload_n 3, 1) := by decide +kernel
theorem dX0_passTick_17 : decode cX0_passTick 17 = .ok (.ifnull 62, 3) := by decide +kernel
theorem dX0_passTick_20 : decode cX0_passTick 20 = .ok (.aload_n 3, 1) := by decide +kernel
theorem dX0_passTick_21 : decode cX0_passTick 21 = .ok (.getfield 88, 3) := by decide +kernel
theorem dX0_passTick_24 : decode cX0_passTick 24 = .ok (.ifCond .eq 6, 3) := by decide +kernel
theorem dX0_passTick_27 : decode cX0_passTick 27 = .ok (.goto 52, 3) := by decide +kernel
theorem dX0_passTick_30 : decode cX0_passTick 30 = .ok (.aload_n 3, 1) := by decide +kernel
theorem dX0_passTick_31 : decode cX0_passTick 31 = .ok (.dup, 1) := by decide +kernel
theorem dX0_passTick_32 : decode cX0_passTick 32 = .ok (.getfield 115, 3) := by decide +kernel
theorem dX0_passTick_35 : decode cX0_passTick 35 = .ok (.aload_n 0, 1) := by decide +kernel
theorem dX0_passTick_36 : decode cX0_passTick 36 = .ok (.aload_n 3, 1) := by decide +kernel
theorem dX0_passTick_37 : decode cX0_passTick 37 = .ok (.invokevirtual 127, 3) := by decide +kernel
theorem dX0_passTick_40 : decode cX0_passTick 40 = .ok (.iadd, 1) := by decide +kernel
theorem dX0_passTick_41 : decode cX0_passTick 41 = .ok (.putfield 115, 3) := by decide +kernel
theorem dX0_passTick_44 : decode cX0_passTick 44 = .ok (.aload_n 3, 1) := by decide +kernel
theorem dX0_passTick_45 : decode cX0_passTick 45 = .ok (.getfield 115, 3) := by decide +kernel
theorem dX0_passTick_48 : decode cX0_passTick 48 = .ok (.aload_n 0, 1) := by decide +kernel
theorem dX0_passTick_49 : decode cX0_passTick 49 = .ok (.iconst 2, 1) := by decide +kernel
theorem dX0_passTick_50 : decode cX0_passTick 50 = .ok (.invokevirtual 112, 3) := by decide +kernel
theorem dX0_passTick_53 : decode cX0_passTick 53 = .ok (.if_icmp .le 26, 3) := by decide +kernel
theorem dX0_passTick_56 : decode cX0_passTick 56 = .ok (.aload_n 0, 1) := by decide +kernel
theorem dX0_passTick_57 : decode cX0_passTick 57 = .ok (.dup, 1) := by decide +kernel
theorem dX0_passTick_58 : decode cX0_passTick 58 = .ok (.getfield 130, 3) := by decide +kernel
theorem dX0_passTick_61 : decode cX0_passTick 61 = .ok (.aload_n 3, 1) := by decide +kernel
theorem dX0_passTick_62 : decode cX0_passTick 62 = .ok (.getfield 115, 3) := by decide +kernel
theorem dX0_passTick_65 : decode cX0_passTick 65 = .ok (.iadd, 1) := by decide +kernel
theorem dX0_passTick_66 : decode cX0_passTick 66 = .ok (.putfield 130, 3) := by decide +kernel
theorem dX0_passTick_69 : decode cX0_passTick 69 = .ok (.aload_n 3, 1) := by decide +kernel
theorem dX0_passTick_70 : decode cX0_passTick 70 = .ok (.invokevirtual 133, 3) := by decide +kernel
theorem dX0_passTick_73 : decode cX0_passTick 73 = .ok (.iload_n 1, 1) := by decide +kernel
theorem dX0_passTick_74 : decode cX0_passTick 74 = .ok (.iconst 1, 1) := by decide +kernel
theorem dX0_passTick_75 : decode cX0_passTick 75 = .ok (.iload_n 2, 1) := by decide +kernel
theorem dX0_passTick_76 : decode cX0_passTick 76 = .ok (.ishl, 1) := by decide +kernel
theorem dX0_passTick_77 : decode cX0_passTick 77 = .ok (.ior, 1) := by decide +kernel
theorem dX0_passTick_78 : decode cX0_passTick 78 = .ok (.istore_n 1, 1) := by decide +kernel
theorem dX0_passTick_79 : decode cX0_passTick 79 = .ok (.iinc 2 1, 3) := by decide +kernel
theorem dX0_passTick_82 : decode cX0_passTick 82 = .ok (.goto (-78), 3) := by decide +kernel
theorem dX0_passTick_85 : decode cX0_passTick 85 = .ok (.aload_n 0, 1) := by decide +kernel
theorem dX0_passTick_86 : decode cX0_passTick 86 = .ok (.aload_n 0, 1) := by decide +kernel
theorem dX0_passTick_87 : decode cX0_passTick 87 = .ok (.iconst 3, 1) := by decide +kernel
theorem dX0_passTick_88 : decode cX0_passTick 88 = .ok (.invokevirtual 112, 3) := by decide +kernel
theorem dX0_passTick_91 : decode cX0_passTick 91 = .ok (.invokevirtual 136, 3) := by decide +kernel
theorem dX0_passTick_94 : decode cX0_passTick 94 = .ok (.aload_n 0, 1) := by decide +kernel
theorem dX0_passTick_95 : decode cX0_passTick 95 = .ok (.dup, 1) := by decide +kernel
theorem dX0_passTick_96 : decode cX0_passTick 96 = .ok (.getfield 139, 3) := by decide +kernel
theorem dX0_passTick_99 : decode cX0_passTick 99 = .ok (.iconst 1, 1) := by decide +kernel
theorem dX0_passTick_100 : decode cX0_passTick 100 = .ok (.iadd, 1) := by decide +kernel
theorem dX0_passTick_101 : decode cX0_passTick 101 = .ok (.putfield 139, 3) := by decide +kernel
theorem dX0_passTick_104 : decode cX0_passTick 104 = .ok (.iload_n 1, 1) := by decide +kernel
theorem dX0_passTick_105 : decode cX0_passTick 105 = .ok (.ireturn, 1) := by decide +kernel
theorem dX0_spend_0 : decode cX0_spend 0 = .ok (.aload_n 0, 1) := by decide +kernel
theorem dX0_spend_1 : decode cX0_spend 1 = .ok (.dup, 1) := by decide +kernel
theorem dX0_spend_2 : decode cX0_spend 2 = .ok (.getfield 121, 3) := by decide +kernel
theorem dX0_spend_5 : decode cX0_spend 5 = .ok (.iload_n 2, 1) := by decide +kernel
theorem dX0_spend_6 : decode cX0_spend 6 = .ok (.isub, 1) := by decide +kernel
theorem dX0_spend_7 : decode cX0_spend 7 = .ok (.putfield 121, 3) := by decide +kernel
theorem dX0_spend_10 : decode cX0_spend 10 = .ok (.aload_n 1, 1) := by decide +kernel
theorem dX0_spend_11 : decode cX0_spend 11 = .ok (.dup, 1) := by decide +kernel
theorem dX0_spend_12 : decode cX0_spend 12 = .ok (.getfield 142, 3) := by decide +kernel
theorem dX0_spend_15 : decode cX0_spend 15 = .ok (.iload_n 2, 1) := by decide +kernel
theorem dX0_spend_16 : decode cX0_spend 16 = .ok (.iadd, 1) := by decide +kernel
theorem dX0_spend_17 : decode cX0_spend 17 = .ok (.putfield 142, 3) := by decide +kernel
theorem dX0_spend_20 : decode cX0_spend 20 = .ok (.return_, 1) := by decide +kernel
theorem dX0_payOne_0 : decode cX0_payOne 0 = .ok (.iload_n 2, 1) := by decide +kernel
theorem dX0_payOne_1 : decode cX0_payOne 1 = .ok (.aload_n 0, 1) := by decide +kernel
theorem dX0_payOne_2 : decode cX0_payOne 2 = .ok (.getfield 121, 3) := by decide +kernel
theorem dX0_payOne_5 : decode cX0_payOne 5 = .ok (.invokestatic 145, 3) := by decide +kernel
theorem dX0_payOne_8 : decode cX0_payOne 8 = .ok (.istore_n 3, 1) := by decide +kernel
theorem dX0_payOne_9 : decode cX0_payOne 9 = .ok (.aload_n 0, 1) := by decide +kernel
theorem dX0_payOne_10 : decode cX0_payOne 10 = .ok (.iconst 4, 1) := by decide +kernel
theorem dX0_payOne_11 : decode cX0_payOne 11 = .ok (.invokevirtual 112, 3) := by decide +kernel
theorem dX0_payOne_14 : decode cX0_payOne 14 = .ok (.ifCond .ne 28, 3) := by decide +kernel
theorem dX0_payOne_17 : decode cX0_payOne 17 = .ok (.aload_n 0, 1) := by decide +kernel
theorem dX0_payOne_18 : decode cX0_payOne 18 = .ok (.aload_n 1, 1) := by decide +kernel
theorem dX0_payOne_19 : decode cX0_payOne 19 = .ok (.iload_n 3, 1) := by decide +kernel
theorem dX0_payOne_20 : decode cX0_payOne 20 = .ok (.invokevirtual 151, 3) := by decide +kernel
theorem dX0_payOne_23 : decode cX0_payOne 23 = .ok (.istore 4, 2) := by decide +kernel
theorem dX0_payOne_25 : decode cX0_payOne 25 = .ok (.iload 4, 2) := by decide +kernel
theorem dX0_payOne_27 : decode cX0_payOne 27 = .ok (.aload_n 0, 1) := by decide +kernel
theorem dX0_payOne_28 : decode cX0_payOne 28 = .ok (.aload_n 1, 1) := by decide +kernel
theorem dX0_payOne_29 : decode cX0_payOne 29 = .ok (.iload_n 3, 1) := by decide +kernel
theorem dX0_payOne_30 : decode cX0_payOne 30 = .ok (.iload 4, 2) := by decide +kernel
theorem dX0_payOne_32 : decode cX0_payOne 32 = .ok (.isub, 1) := by decide +kernel
theorem dX0_payOne_33 : decode cX0_payOne 33 = .ok (.invokevirtual 155, 3) := by decide +kernel
theorem dX0_payOne_36 : decode cX0_payOne 36 = .ok (.iadd, 1) := by decide +kernel
theorem dX0_payOne_37 : decode cX0_payOne 37 = .ok (.istore 4, 2) := by decide +kernel
theorem dX0_payOne_39 : decode cX0_payOne 39 = .ok (.goto 25, 3) := by decide +kernel
theorem dX0_payOne_42 : decode cX0_payOne 42 = .ok (.aload_n 0, 1) := by decide +kernel
theorem dX0_payOne_43 : decode cX0_payOne 43 = .ok (.aload_n 1, 1) := by decide +kernel
theorem dX0_payOne_44 : decode cX0_payOne 44 = .ok (.iload_n 3, 1) := by decide +kernel
theorem dX0_payOne_45 : decode cX0_payOne 45 = .ok (.invokevirtual 155, 3) := by decide +kernel
theorem dX0_payOne_48 : decode cX0_payOne 48 = .ok (.istore 4, 2) := by decide +kernel
theorem dX0_payOne_50 : decode cX0_payOne 50 = .ok (.iload 4, 2) := by decide +kernel
theorem dX0_payOne_52 : decode cX0_payOne 52 = .ok (.aload_n 0, 1) := by decide +kernel
theorem dX0_payOne_53 : decode cX0_payOne 53 = .ok (.aload_n 1, 1) := by decide +kernel
theorem dX0_payOne_54 : decode cX0_payOne 54 = .ok (.iload_n 3, 1) := by decide +kernel
theorem dX0_payOne_55 : decode cX0_payOne 55 = .ok (.iload 4, 2) := by decide +kernel
theorem dX0_payOne_57 : decode cX0_payOne 57 = .ok (.isub, 1) := by decide +kernel
theorem dX0_payOne_58 : decode cX0_payOne 58 = .ok (.invokevirtual 151, 3) := by decide +kernel
theorem dX0_payOne_61 : decode cX0_payOne 61 = .ok (.iadd, 1) := by decide +kernel
theorem dX0_payOne_62 : decode cX0_payOne 62 = .ok (.istore 4, 2) := by decide +kernel
theorem dX0_payOne_64 : decode cX0_payOne 64 = .ok (.iload 4, 2) := by decide +kernel
theorem dX0_payOne_66 : decode cX0_payOne 66 = .ok (.ireturn, 1) := by decide +kernel
theorem dX0_payDebt_0 : decode cX0_payDebt 0 = .ok (.iload_n 2, 1) := by decide +kernel
theorem dX0_payDebt_1 : decode cX0_payDebt 1 = .ok (.aload_n 1, 1) := by decide +kernel
theorem dX0_payDebt_2 : decode cX0_payDebt 2 = .ok (.getfield 115, 3) := by decide +kernel
theorem dX0_payDebt_5 : decode cX0_payDebt 5 = .ok (.invokestatic 145, 3) := by decide +kernel
theorem dX0_payDebt_8 : decode cX0_payDebt 8 = .ok (.istore_n 3, 1) := by decide +kernel
theorem dX0_payDebt_9 : decode cX0_payDebt 9 = .ok (.aload_n 1, 1) := by decide +kernel
theorem dX0_payDebt_10 : decode cX0_payDebt 10 = .ok (.dup, 1) := by decide +kernel
theorem dX0_payDebt_11 : decode cX0_payDebt 11 = .ok (.getfield 115, 3) := by decide +kernel
theorem dX0_payDebt_14 : decode cX0_payDebt 14 = .ok (.iload_n 3, 1) := by decide +kernel
theorem dX0_payDebt_15 : decode cX0_payDebt 15 = .ok (.isub, 1) := by decide +kernel
theorem dX0_payDebt_16 : decode cX0_payDebt 16 = .ok (.putfield 115, 3) := by decide +kernel
theorem dX0_payDebt_19 : decode cX0_payDebt 19 = .ok (.aload_n 0, 1) := by decide +kernel
theorem dX0_payDebt_20 : decode cX0_payDebt 20 = .ok (.dup, 1) := by decide +kernel
theorem dX0_payDebt_21 : decode cX0_payDebt 21 = .ok (.getfield 158, 3) := by decide +kernel
theorem dX0_payDebt_24 : decode cX0_payDebt 24 = .ok (.iload_n 3, 1) := by decide +kernel
theorem dX0_payDebt_25 : decode cX0_payDebt 25 = .ok (.iadd, 1) := by decide +kernel
theorem dX0_payDebt_26 : decode cX0_payDebt 26 = .ok (.putfield 158, 3) := by decide +kernel
theorem dX0_payDebt_29 : decode cX0_payDebt 29 = .ok (.aload_n 0, 1) := by decide +kernel
theorem dX0_payDebt_30 : decode cX0_payDebt 30 = .ok (.aload_n 1, 1) := by decide +kernel
theorem dX0_payDebt_31 : decode cX0_payDebt 31 = .ok (.iload_n 3, 1) := by decide +kernel
theorem dX0_payDebt_32 : decode cX0_payDebt 32 = .ok (.invokevirtual 161, 3) := by decide +kernel
theorem dX0_payDebt_35 : decode cX0_payDebt 35 = .ok (.iload_n 3, 1) := by decide +kernel
theorem dX0_payDebt_36 : decode cX0_payDebt 36 = .ok (.ireturn, 1) := by decide +kernel
theorem dX0_payArrears_0 : decode cX0_payArrears 0 = .ok (.aload_n 0, 1) := by decide +kernel
theorem dX0_payArrears_1 : decode cX0_payArrears 1 = .ok (.aload_n 1, 1) := by decide +kernel
theorem dX0_payArrears_2 : decode cX0_payArrears 2 = .ok (.invokevirtual 118, 3) := by decide +kernel
theorem dX0_payArrears_5 : decode cX0_payArrears 5 = .ok (.istore_n 3, 1) := by decide +kernel
theorem dX0_payArrears_6 : decode cX0_payArrears 6 = .ok (.iconst 0, 1) := by decide +kernel
theorem dX0_payArrears_7 : decode cX0_payArrears 7 = .ok (.istore 4, 2) := by decide +kernel
theorem dX0_payArrears_9 : decode cX0_payArrears 9 = .ok (.aload_n 1, 1) := by decide +kernel
theorem dX0_payArrears_10 : decode cX0_payArrears 10 = .ok (.getfield 101, 3) := by decide +kernel
theorem dX0_payArrears_13 : decode cX0_payArrears 13 = .ok (.istore 5, 2) := by decide +kernel
theorem dX0_payArrears_15 : decode cX0_payArrears 15 = .ok (.iload 5, 2) := by decide +kernel
theorem dX0_payArrears_17 : decode cX0_payArrears 17 = .ok (.aload_n 0, 1) := by decide +kernel
theorem dX0_payArrears_18 : decode cX0_payArrears 18 = .ok (.getfield 12, 3) := by decide +kernel
theorem dX0_payArrears_21 : decode cX0_payArrears 21 = .ok (.getfield 67, 3) := by decide +kernel
theorem dX0_payArrears_24 : decode cX0_payArrears 24 = .ok (.if_icmp .ge 42, 3) := by decide +kernel
theorem dX0_payArrears_27 : decode cX0_payArrears 27 = .ok (.aload_n 1, 1) := by decide +kernel
theorem dX0_payArrears_28 : decode cX0_payArrears 28 = .ok (.aload_n 0, 1) := by decide +kernel
theorem dX0_payArrears_29 : decode cX0_payArrears 29 = .ok (.getfield 12, 3) := by decide +kernel
theorem dX0_payArrears_32 : decode cX0_payArrears 32 = .ok (.iload 5, 2) := by decide +kernel
theorem dX0_payArrears_34 : decode cX0_payArrears 34 = .ok (.invokevirtual 104, 3) := by decide +kernel
theorem dX0_payArrears_37 : decode cX0_payArrears 37 = .ok (.invokevirtual 98, 3) := by decide +kernel
theorem dX0_payArrears_40 : decode cX0_payArrears 40 = .ok (.ifCond .eq 20, 3) := by decide +kernel
theorem dX0_payArrears_43 : decode cX0_payArrears 43 = .ok (.iload 4, 2) := by decide +kernel
theorem dX0_payArrears_45 : decode cX0_payArrears 45 = .ok (.iload_n 3, 1) := by decide +kernel
theorem dX0_payArrears_46 : decode cX0_payArrears 46 = .ok (.iadd, 1) := by decide +kernel
theorem dX0_payArrears_47 : decode cX0_payArrears 47 = .ok (.iload_n 2, 1) := by decide +kernel
theorem dX0_payArrears_48 : decode cX0_payArrears 48 = .ok (.if_icmp .le 6, 3) := by decide +kernel
theorem dX0_payArrears_51 : decode cX0_payArrears 51 = .ok (.goto 15, 3) := by decide +kernel
theorem dX0_payArrears_54 : decode cX0_payArrears 54 = .ok (.iload 4, 2) := by decide +kernel
theorem dX0_payArrears_56 : decode cX0_payArrears 56 = .ok (.iload_n 3, 1) := by decide +kernel
theorem dX0_payArrears_57 : decode cX0_payArrears 57 = .ok (.iadd, 1) := by decide +kernel
theorem dX0_payArrears_58 : decode cX0_payArrears 58 = .ok (.istore 4, 2) := by decide +kernel
theorem dX0_payArrears_60 : decode cX0_payArrears 60 = .ok (.iinc 5 1, 3) := by decide +kernel
theorem dX0_payArrears_63 : decode cX0_payArrears 63 = .ok (.goto (-48), 3) := by decide +kernel
theorem dX0_payArrears_66 : decode cX0_payArrears 66 = .ok (.aload_n 1, 1) := by decide +kernel
theorem dX0_payArrears_67 : decode cX0_payArrears 67 = .ok (.iload 5, 2) := by decide +kernel
theorem dX0_payArrears_69 : decode cX0_payArrears 69 = .ok (.putfield 101, 3) := by decide +kernel
theorem dX0_payArrears_72 : decode cX0_payArrears 72 = .ok (.aload_n 0, 1) := by decide +kernel
theorem dX0_payArrears_73 : decode cX0_payArrears 73 = .ok (.dup, 1) := by decide +kernel
theorem dX0_payArrears_74 : decode cX0_payArrears 74 = .ok (.getfield 165, 3) := by decide +kernel
theorem dX0_payArrears_77 : decode cX0_payArrears 77 = .ok (.iload 4, 2) := by decide +kernel
theorem dX0_payArrears_79 : decode cX0_payArrears 79 = .ok (.iadd, 1) := by decide +kernel
theorem dX0_payArrears_80 : decode cX0_payArrears 80 = .ok (.putfield 165, 3) := by decide +kernel
theorem dX0_payArrears_83 : decode cX0_payArrears 83 = .ok (.aload_n 0, 1) := by decide +kernel
theorem dX0_payArrears_84 : decode cX0_payArrears 84 = .ok (.aload_n 1, 1) := by decide +kernel
theorem dX0_payArrears_85 : decode cX0_payArrears 85 = .ok (.iload 4, 2) := by decide +kernel
theorem dX0_payArrears_87 : decode cX0_payArrears 87 = .ok (.invokevirtual 161, 3) := by decide +kernel
theorem dX0_payArrears_90 : decode cX0_payArrears 90 = .ok (.iload 4, 2) := by decide +kernel
theorem dX0_payArrears_92 : decode cX0_payArrears 92 = .ok (.ireturn, 1) := by decide +kernel
theorem dX0_payEvery_0 : decode cX0_payEvery 0 = .ok (.aload_n 0, 1) := by decide +kernel
theorem dX0_payEvery_1 : decode cX0_payEvery 1 = .ok (.invokevirtual 168, 3) := by decide +kernel
theorem dX0_payEvery_4 : decode cX0_payEvery 4 = .ok (.aload_n 0, 1) := by decide +kernel
theorem dX0_payEvery_5 : decode cX0_payEvery 5 = .ok (.iconst 2, 1) := by decide +kernel
theorem dX0_payEvery_6 : decode cX0_payEvery 6 = .ok (.invokevirtual 171, 3) := by decide +kernel
theorem dX0_payEvery_9 : decode cX0_payEvery 9 = .ok (.istore_n 1, 1) := by decide +kernel
theorem dX0_payEvery_10 : decode cX0_payEvery 10 = .ok (.iconst 0, 1) := by decide +kernel
theorem dX0_payEvery_11 : decode cX0_payEvery 11 = .ok (.istore_n 2, 1) := by decide +kernel
theorem dX0_payEvery_12 : decode cX0_payEvery 12 = .ok (.iconst 0, 1) := by decide +kernel
theorem dX0_payEvery_13 : decode cX0_payEvery 13 = .ok (.istore_n 3, 1) := by decide +kernel
theorem dX0_payEvery_14 : decode cX0_payEvery 14 = .ok (.iload_n 3, 1) := by decide +kernel
theorem dX0_payEvery_15 : decode cX0_payEvery 15 = .ok (.bipush 8, 2) := by decide +kernel
theorem dX0_payEvery_17 : decode cX0_payEvery 17 = .ok (.if_icmp .ge 51, 3) := by decide +kernel
theorem dX0_payEvery_20 : decode cX0_payEvery 20 = .ok (.aload_n 0, 1) := by decide +kernel
theorem dX0_payEvery_21 : decode cX0_payEvery 21 = .ok (.iload_n 1, 1) := by decide +kernel
theorem dX0_payEvery_22 : decode cX0_payEvery 22 = .ok (.invokevirtual 174, 3) := by decide +kernel
theorem dX0_payEvery_25 : decode cX0_payEvery 25 = .ok (.istore 4, 2) := by decide +kernel
theorem dX0_payEvery_27 : decode cX0_payEvery 27 = .ok (.aload_n 0, 1) := by decide +kernel
theorem dX0_payEvery_28 : decode cX0_payEvery 28 = .ok (.iload 4, 2) := by decide +kernel
theorem dX0_payEvery_30 : decode cX0_payEvery 30 = .ok (.invokevirtual 39, 3) := by decide +kernel
theorem dX0_payEvery_33 : decode cX0_payEvery 33 = .ok (.astore 5, 2) := by decide +kernel
theorem dX0_payEvery_35 : decode cX0_payEvery 35 = .ok (.aload 5, 2) := by decide +kernel
theorem dX0_payEvery_37 : decode cX0_payEvery 37 = .ok (.ifnull 25, 3) := by decide +kernel
theorem dX0_payEvery_40 : decode cX0_payEvery 40 = .ok (.iload_n 2, 1) := by decide +kernel
theorem dX0_payEvery_41 : decode cX0_payEvery 41 = .ok (.aload_n 0, 1) := by decide +kernel
theorem dX0_payEvery_42 : decode cX0_payEvery 42 = .ok (.aload 5, 2) := by decide +kernel
theorem dX0_payEvery_44 : decode cX0_payEvery 44 = .ok (.aload_n 0, 1) := by decide +kernel
theorem dX0_payEvery_45 : decode cX0_payEvery 45 = .ok (.getfield 121, 3) := by decide +kernel
theorem dX0_payEvery_48 : decode cX0_payEvery 48 = .ok (.invokevirtual 177, 3) := by decide +kernel
theorem dX0_payEvery_51 : decode cX0_payEvery 51 = .ok (.iadd, 1) := by decide +kernel
theorem dX0_payEvery_52 : decode cX0_payEvery 52 = .ok (.istore_n 2, 1) := by decide +kernel
theorem dX0_payEvery_53 : decode cX0_payEvery 53 = .ok (.iload_n 1, 1) := by decide +kernel
theorem dX0_payEvery_54 : decode cX0_payEvery 54 = .ok (.iconst 1, 1) := by decide +kernel
theorem dX0_payEvery_55 : decode cX0_payEvery 55 = .ok (.iload 4, 2) := by decide +kernel
theorem dX0_payEvery_57 : decode cX0_payEvery 57 = .ok (.ishl, 1) := by decide +kernel
theorem dX0_payEvery_58 : decode cX0_payEvery 58 = .ok (.iconst (-1), 1) := by decide +kernel
theorem dX0_payEvery_59 : decode cX0_payEvery 59 = .ok (.ixor, 1) := by decide +kernel
theorem dX0_payEvery_60 : decode cX0_payEvery 60 = .ok (.iand, 1) := by decide +kernel
theorem dX0_payEvery_61 : decode cX0_payEvery 61 = .ok (.istore_n 1, 1) := by decide +kernel
theorem dX0_payEvery_62 : decode cX0_payEvery 62 = .ok (.iinc 3 1, 3) := by decide +kernel
theorem dX0_payEvery_65 : decode cX0_payEvery 65 = .ok (.goto (-51), 3) := by decide +kernel
theorem dX0_payEvery_68 : decode cX0_payEvery 68 = .ok (.iload_n 2, 1) := by decide +kernel
theorem dX0_payEvery_69 : decode cX0_payEvery 69 = .ok (.ireturn, 1) := by decide +kernel
theorem dX0_noteRanks_0 : decode cX0_noteRanks 0 = .ok (.iconst 0, 1) := by decide +kernel
theorem dX0_noteRanks_1 : decode cX0_noteRanks 1 = .ok (.istore_n 1, 1) := by decide +kernel
theorem dX0_noteRanks_2 : decode cX0_noteRanks 2 = .ok (.iload_n 1, 1) := by decide +kernel
theorem dX0_noteRanks_3 : decode cX0_noteRanks 3 = .ok (.aload_n 0, 1) := by decide +kernel
theorem dX0_noteRanks_4 : decode cX0_noteRanks 4 = .ok (.getfield 28, 3) := by decide +kernel
theorem dX0_noteRanks_7 : decode cX0_noteRanks 7 = .ok (.arraylength, 1) := by decide +kernel
theorem dX0_noteRanks_8 : decode cX0_noteRanks 8 = .ok (.if_icmp .ge 34, 3) := by decide +kernel
theorem dX0_noteRanks_11 : decode cX0_noteRanks 11 = .ok (.aload_n 0, 1) := by decide +kernel
theorem dX0_noteRanks_12 : decode cX0_noteRanks 12 = .ok (.iload_n 1, 1) := by decide +kernel
theorem dX0_noteRanks_13 : decode cX0_noteRanks 13 = .ok (.invokevirtual 39, 3) := by decide +kernel
theorem dX0_noteRanks_16 : decode cX0_noteRanks 16 = .ok (.astore_n 2, 1) := by decide +kernel
theorem dX0_noteRanks_17 : decode cX0_noteRanks 17 = .ok (.aload_n 0, 1) := by decide +kernel
theorem dX0_noteRanks_18 : decode cX0_noteRanks 18 = .ok (.getfield 28, 3) := by decide +kernel
theorem dX0_noteRanks_21 : decode cX0_noteRanks 21 = .ok (.iload_n 1, 1) := by decide +kernel
theorem dX0_noteRanks_22 : decode cX0_noteRanks 22 = .ok (.aload_n 2, 1) := by decide +kernel
theorem dX0_noteRanks_23 : decode cX0_noteRanks 23 = .ok (.ifnonnull 7, 3) := by decide +kernel
theorem dX0_noteRanks_26 : decode cX0_noteRanks 26 = .ok (.iconst 0, 1) := by decide +kernel
theorem dX0_noteRanks_27 : decode cX0_noteRanks 27 = .ok (.goto 8, 3) := by decide +kernel
theorem dX0_noteRanks_30 : decode cX0_noteRanks 30 = .ok (.aload_n 0, 1) := by decide +kernel
theorem dX0_noteRanks_31 : decode cX0_noteRanks 31 = .ok (.aload_n 2, 1) := by decide +kernel
theorem dX0_noteRanks_32 : decode cX0_noteRanks 32 = .ok (.invokevirtual 180, 3) := by decide +kernel
theorem dX0_noteRanks_35 : decode cX0_noteRanks 35 = .ok (.iastore, 1) := by decide +kernel
theorem dX0_noteRanks_36 : decode cX0_noteRanks 36 = .ok (.iinc 1 1, 3) := by decide +kernel
theorem dX0_noteRanks_39 : decode cX0_noteRanks 39 = .ok (.goto (-37), 3) := by decide +kernel
theorem dX0_noteRanks_42 : decode cX0_noteRanks 42 = .ok (.return_, 1) := by decide +kernel
theorem dX0_rank_0 : decode cX0_rank 0 = .ok (.aload_n 0, 1) := by decide +kernel
theorem dX0_rank_1 : decode cX0_rank 1 = .ok (.iconst 5, 1) := by decide +kernel
theorem dX0_rank_2 : decode cX0_rank 2 = .ok (.invokevirtual 112, 3) := by decide +kernel
theorem dX0_rank_5 : decode cX0_rank 5 = .ok (.lookupswitch 39 #[(1, 27), (2, 33)], 27) := by decide +kernel
theorem dX0_rank_32 : decode cX0_rank 32 = .ok (.aload_n 1, 1) := by decide +kernel
theorem dX0_rank_33 : decode cX0_rank 33 = .ok (.getfield 115, 3) := by decide +kernel
theorem dX0_rank_36 : decode cX0_rank 36 = .ok (.ineg, 1) := by decide +kernel
theorem dX0_rank_37 : decode cX0_rank 37 = .ok (.ireturn, 1) := by decide +kernel
theorem dX0_rank_38 : decode cX0_rank 38 = .ok (.aload_n 0, 1) := by decide +kernel
theorem dX0_rank_39 : decode cX0_rank 39 = .ok (.aload_n 1, 1) := by decide +kernel
theorem dX0_rank_40 : decode cX0_rank 40 = .ok (.invokevirtual 95, 3) := by decide +kernel
theorem dX0_rank_43 : decode cX0_rank 43 = .ok (.ireturn, 1) := by decide +kernel
theorem dX0_rank_44 : decode cX0_rank 44 = .ok (.iconst 0, 1) := by decide +kernel
theorem dX0_rank_45 : decode cX0_rank 45 = .ok (.ireturn, 1) := by decide +kernel
theorem dX0_nextOf_0 : decode cX0_nextOf 0 = .ok (.iconst (-1), 1) := by decide +kernel
theorem dX0_nextOf_1 : decode cX0_nextOf 1 = .ok (.istore_n 2, 1) := by decide +kernel
theorem dX0_nextOf_2 : decode cX0_nextOf 2 = .ok (.iconst 0, 1) := by decide +kernel
theorem dX0_nextOf_3 : decode cX0_nextOf 3 = .ok (.istore_n 3, 1) := by decide +kernel
theorem dX0_nextOf_4 : decode cX0_nextOf 4 = .ok (.iconst 0, 1) := by decide +kernel
theorem dX0_nextOf_5 : decode cX0_nextOf 5 = .ok (.istore 4, 2) := by decide +kernel
theorem dX0_nextOf_7 : decode cX0_nextOf 7 = .ok (.iload 4, 2) := by decide +kernel
theorem dX0_nextOf_9 : decode cX0_nextOf 9 = .ok (.aload_n 0, 1) := by decide +kernel
theorem dX0_nextOf_10 : decode cX0_nextOf 10 = .ok (.getfield 28, 3) := by decide +kernel
theorem dX0_nextOf_13 : decode cX0_nextOf 13 = .ok (.arraylength, 1) := by decide +kernel
theorem dX0_nextOf_14 : decode cX0_nextOf 14 = .ok (.if_icmp .ge 57, 3) := by decide +kernel
theorem dX0_nextOf_17 : decode cX0_nextOf 17 = .ok (.iload_n 1, 1) := by decide +kernel
theorem dX0_nextOf_18 : decode cX0_nextOf 18 = .ok (.iconst 1, 1) := by decide +kernel
theorem dX0_nextOf_19 : decode cX0_nextOf 19 = .ok (.iload 4, 2) := by decide +kernel
theorem dX0_nextOf_21 : decode cX0_nextOf 21 = .ok (.ishl, 1) := by decide +kernel
theorem dX0_nextOf_22 : decode cX0_nextOf 22 = .ok (.iand, 1) := by decide +kernel
theorem dX0_nextOf_23 : decode cX0_nextOf 23 = .ok (.ifCond .eq 7, 3) := by decide +kernel
theorem dX0_nextOf_26 : decode cX0_nextOf 26 = .ok (.iconst 1, 1) := by decide +kernel
theorem dX0_nextOf_27 : decode cX0_nextOf 27 = .ok (.goto 4, 3) := by decide +kernel
theorem dX0_nextOf_30 : decode cX0_nextOf 30 = .ok (.iconst 0, 1) := by decide +kernel
theorem dX0_nextOf_31 : decode cX0_nextOf 31 = .ok (.istore 5, 2) := by decide +kernel
theorem dX0_nextOf_33 : decode cX0_nextOf 33 = .ok (.iload 5, 2) := by decide +kernel
theorem dX0_nextOf_35 : decode cX0_nextOf 35 = .ok (.ifCond .eq 30, 3) := by decide +kernel
theorem dX0_nextOf_38 : decode cX0_nextOf 38 = .ok (.iload_n 2, 1) := by decide +kernel
theorem dX0_nextOf_39 : decode cX0_nextOf 39 = .ok (.iconst (-1), 1) := by decide +kernel
theorem dX0_nextOf_40 : decode cX0_nextOf 40 = .ok (.if_icmp .eq 14, 3) := by decide +kernel
theorem dX0_nextOf_43 : decode cX0_nextOf 43 = .ok (.aload_n 0, 1) := by decide +kernel
theorem dX0_nextOf_44 : decode cX0_nextOf 44 = .ok (.getfield 28, 3) := by decide +kernel
theorem dX0_nextOf_47 : decode cX0_nextOf 47 = .ok (.iload 4, 2) := by decide +kernel
theorem dX0_nextOf_49 : decode cX0_nextOf 49 = .ok (.iaload, 1) := by decide +kernel
theorem dX0_nextOf_50 : decode cX0_nextOf 50 = .ok (.iload_n 3, 1) := by decide +kernel
theorem dX0_nextOf_51 : decode cX0_nextOf 51 = .ok (.if_icmp .ge 14, 3) := by decide +kernel
theorem dX0_nextOf_54 : decode cX0_nextOf 54 = .ok (.iload 4, 2) := by decide +kernel
theorem dX0_nextOf_56 : decode cX0_nextOf 56 = .ok (.istore_n 2, 1) := by decide +kernel
theorem dX0_nextOf_57 : decode cX0_nextOf 57 = .ok (.aload_n 0, 1) := by decide +kernel
theorem dX0_nextOf_58 : decode cX0_nextOf 58 = .ok (.getfield 28, 3) := by decide +kernel
theorem dX0_nextOf_61 : decode cX0_nextOf 61 = .ok (.iload 4, 2) := by decide +kernel
theorem dX0_nextOf_63 : decode cX0_nextOf 63 = .ok (.iaload, 1) := by decide +kernel
theorem dX0_nextOf_64 : decode cX0_nextOf 64 = .ok (.istore_n 3, 1) := by decide +kernel
theorem dX0_nextOf_65 : decode cX0_nextOf 65 = .ok (.iinc 4 1, 3) := by decide +kernel
theorem dX0_nextOf_68 : decode cX0_nextOf 68 = .ok (.goto (-61), 3) := by decide +kernel
theorem dX0_nextOf_71 : decode cX0_nextOf 71 = .ok (.iload_n 2, 1) := by decide +kernel
theorem dX0_nextOf_72 : decode cX0_nextOf 72 = .ok (.ireturn, 1) := by decide +kernel
theorem dX0_foundAnew_0 : decode cX0_foundAnew 0 = .ok (.aload_n 0, 1) := by decide +kernel
theorem dX0_foundAnew_1 : decode cX0_foundAnew 1 = .ok (.dup, 1) := by decide +kernel
theorem dX0_foundAnew_2 : decode cX0_foundAnew 2 = .ok (.getfield 183, 3) := by decide +kernel
theorem dX0_foundAnew_5 : decode cX0_foundAnew 5 = .ok (.iload_n 2, 1) := by decide +kernel
theorem dX0_foundAnew_6 : decode cX0_foundAnew 6 = .ok (.iadd, 1) := by decide +kernel
theorem dX0_foundAnew_7 : decode cX0_foundAnew 7 = .ok (.putfield 183, 3) := by decide +kernel
theorem dX0_foundAnew_10 : decode cX0_foundAnew 10 = .ok (.aload_n 0, 1) := by decide +kernel
theorem dX0_foundAnew_11 : decode cX0_foundAnew 11 = .ok (.aload_n 1, 1) := by decide +kernel
theorem dX0_foundAnew_12 : decode cX0_foundAnew 12 = .ok (.iload_n 2, 1) := by decide +kernel
theorem dX0_foundAnew_13 : decode cX0_foundAnew 13 = .ok (.invokevirtual 161, 3) := by decide +kernel
theorem dX0_foundAnew_16 : decode cX0_foundAnew 16 = .ok (.aload_n 1, 1) := by decide +kernel
theorem dX0_foundAnew_17 : decode cX0_foundAnew 17 = .ok (.aload_n 0, 1) := by decide +kernel
theorem dX0_foundAnew_18 : decode cX0_foundAnew 18 = .ok (.getfield 12, 3) := by decide +kernel
theorem dX0_foundAnew_21 : decode cX0_foundAnew 21 = .ok (.getfield 67, 3) := by decide +kernel
theorem dX0_foundAnew_24 : decode cX0_foundAnew 24 = .ok (.invokevirtual 186, 3) := by decide +kernel
theorem dX0_foundAnew_27 : decode cX0_foundAnew 27 = .ok (.return_, 1) := by decide +kernel
theorem dX0_copyFrom_0 : decode cX0_copyFrom 0 = .ok (.aload_n 0, 1) := by decide +kernel
theorem dX0_copyFrom_1 : decode cX0_copyFrom 1 = .ok (.getfield 12, 3) := by decide +kernel
theorem dX0_copyFrom_4 : decode cX0_copyFrom 4 = .ok (.aload_n 1, 1) := by decide +kernel
theorem dX0_copyFrom_5 : decode cX0_copyFrom 5 = .ok (.getfield 12, 3) := by decide +kernel
theorem dX0_copyFrom_8 : decode cX0_copyFrom 8 = .ok (.invokevirtual 189, 3) := by decide +kernel
theorem dX0_copyFrom_11 : decode cX0_copyFrom 11 = .ok (.iconst 0, 1) := by decide +kernel
theorem dX0_copyFrom_12 : decode cX0_copyFrom 12 = .ok (.istore_n 2, 1) := by decide +kernel
theorem dX0_copyFrom_13 : decode cX0_copyFrom 13 = .ok (.iload_n 2, 1) := by decide +kernel
theorem dX0_copyFrom_14 : decode cX0_copyFrom 14 = .ok (.aload_n 0, 1) := by decide +kernel
theorem dX0_copyFrom_15 : decode cX0_copyFrom 15 = .ok (.getfield 20, 3) := by decide +kernel
theorem dX0_copyFrom_18 : decode cX0_copyFrom 18 = .ok (.arraylength, 1) := by decide +kernel
theorem dX0_copyFrom_19 : decode cX0_copyFrom 19 = .ok (.if_icmp .ge 51, 3) := by decide +kernel
theorem dX0_copyFrom_22 : decode cX0_copyFrom 22 = .ok (.iload_n 2, 1) := by decide +kernel
theorem dX0_copyFrom_23 : decode cX0_copyFrom 23 = .ok (.aload_n 1, 1) := by decide +kernel
theorem dX0_copyFrom_24 : decode cX0_copyFrom 24 = .ok (.getfield 20, 3) := by decide +kernel
theorem dX0_copyFrom_27 : decode cX0_copyFrom 27 = .ok (.arraylength, 1) := by decide +kernel
theorem dX0_copyFrom_28 : decode cX0_copyFrom 28 = .ok (.if_icmp .ge 42, 3) := by decide +kernel
theorem dX0_copyFrom_31 : decode cX0_copyFrom 31 = .ok (.aload_n 0, 1) := by decide +kernel
theorem dX0_copyFrom_32 : decode cX0_copyFrom 32 = .ok (.getfield 20, 3) := by decide +kernel
theorem dX0_copyFrom_35 : decode cX0_copyFrom 35 = .ok (.iload_n 2, 1) := by decide +kernel
theorem dX0_copyFrom_36 : decode cX0_copyFrom 36 = .ok (.aaload, 1) := by decide +kernel
theorem dX0_copyFrom_37 : decode cX0_copyFrom 37 = .ok (.ifnull 27, 3) := by decide +kernel
theorem dX0_copyFrom_40 : decode cX0_copyFrom 40 = .ok (.aload_n 1, 1) := by decide +kernel
theorem dX0_copyFrom_41 : decode cX0_copyFrom 41 = .ok (.getfield 20, 3) := by decide +kernel
theorem dX0_copyFrom_44 : decode cX0_copyFrom 44 = .ok (.iload_n 2, 1) := by decide +kernel
theorem dX0_copyFrom_45 : decode cX0_copyFrom 45 = .ok (.aaload, 1) := by decide +kernel
theorem dX0_copyFrom_46 : decode cX0_copyFrom 46 = .ok (.ifnull 18, 3) := by decide +kernel
theorem dX0_copyFrom_49 : decode cX0_copyFrom 49 = .ok (.aload_n 0, 1) := by decide +kernel
theorem dX0_copyFrom_50 : decode cX0_copyFrom 50 = .ok (.getfield 20, 3) := by decide +kernel
theorem dX0_copyFrom_53 : decode cX0_copyFrom 53 = .ok (.iload_n 2, 1) := by decide +kernel
theorem dX0_copyFrom_54 : decode cX0_copyFrom 54 = .ok (.aaload, 1) := by decide +kernel
theorem dX0_copyFrom_55 : decode cX0_copyFrom 55 = .ok (.aload_n 1, 1) := by decide +kernel
theorem dX0_copyFrom_56 : decode cX0_copyFrom 56 = .ok (.getfield 20, 3) := by decide +kernel
theorem dX0_copyFrom_59 : decode cX0_copyFrom 59 = .ok (.iload_n 2, 1) := by decide +kernel
theorem dX0_copyFrom_60 : decode cX0_copyFrom 60 = .ok (.aaload, 1) := by decide +kernel
theorem dX0_copyFrom_61 : decode cX0_copyFrom 61 = .ok (.invokevirtual 193, 3) := by decide +kernel
theorem dX0_copyFrom_64 : decode cX0_copyFrom 64 = .ok (.iinc 2 1, 3) := by decide +kernel
theorem dX0_copyFrom_67 : decode cX0_copyFrom 67 = .ok (.goto (-54), 3) := by decide +kernel
theorem dX0_copyFrom_70 : decode cX0_copyFrom 70 = .ok (.iconst 0, 1) := by decide +kernel
theorem dX0_copyFrom_71 : decode cX0_copyFrom 71 = .ok (.istore_n 2, 1) := by decide +kernel
theorem dX0_copyFrom_72 : decode cX0_copyFrom 72 = .ok (.iload_n 2, 1) := by decide +kernel
theorem dX0_copyFrom_73 : decode cX0_copyFrom 73 = .ok (.aload_n 0, 1) := by decide +kernel
theorem dX0_copyFrom_74 : decode cX0_copyFrom 74 = .ok (.getfield 24, 3) := by decide +kernel
theorem dX0_copyFrom_77 : decode cX0_copyFrom 77 = .ok (.arraylength, 1) := by decide +kernel
theorem dX0_copyFrom_78 : decode cX0_copyFrom 78 = .ok (.if_icmp .ge 20, 3) := by decide +kernel
theorem dX0_copyFrom_81 : decode cX0_copyFrom 81 = .ok (.aload_n 0, 1) := by decide +kernel
theorem dX0_copyFrom_82 : decode cX0_copyFrom 82 = .ok (.getfield 24, 3) := by decide +kernel
theorem dX0_copyFrom_85 : decode cX0_copyFrom 85 = .ok (.iload_n 2, 1) := by decide +kernel
theorem dX0_copyFrom_86 : decode cX0_copyFrom 86 = .ok (.aload_n 1, 1) := by decide +kernel
theorem dX0_copyFrom_87 : decode cX0_copyFrom 87 = .ok (.iload_n 2, 1) := by decide +kernel
theorem dX0_copyFrom_88 : decode cX0_copyFrom 88 = .ok (.invokevirtual 112, 3) := by decide +kernel
theorem dX0_copyFrom_91 : decode cX0_copyFrom 91 = .ok (.iastore, 1) := by decide +kernel
theorem dX0_copyFrom_92 : decode cX0_copyFrom 92 = .ok (.iinc 2 1, 3) := by decide +kernel
theorem dX0_copyFrom_95 : decode cX0_copyFrom 95 = .ok (.goto (-23), 3) := by decide +kernel
theorem dX0_copyFrom_98 : decode cX0_copyFrom 98 = .ok (.aload_n 0, 1) := by decide +kernel
theorem dX0_copyFrom_99 : decode cX0_copyFrom 99 = .ok (.aload_n 1, 1) := by decide +kernel
theorem dX0_copyFrom_100 : decode cX0_copyFrom 100 = .ok (.getfield 43, 3) := by decide +kernel
theorem dX0_copyFrom_103 : decode cX0_copyFrom 103 = .ok (.putfield 43, 3) := by decide +kernel
theorem dX0_copyFrom_106 : decode cX0_copyFrom 106 = .ok (.aload_n 0, 1) := by decide +kernel
theorem dX0_copyFrom_107 : decode cX0_copyFrom 107 = .ok (.aload_n 1, 1) := by decide +kernel
theorem dX0_copyFrom_108 : decode cX0_copyFrom 108 = .ok (.getfield 121, 3) := by decide +kernel
theorem dX0_copyFrom_111 : decode cX0_copyFrom 111 = .ok (.putfield 121, 3) := by decide +kernel
theorem dX0_copyFrom_114 : decode cX0_copyFrom 114 = .ok (.aload_n 0, 1) := by decide +kernel
theorem dX0_copyFrom_115 : decode cX0_copyFrom 115 = .ok (.aload_n 1, 1) := by decide +kernel
theorem dX0_copyFrom_116 : decode cX0_copyFrom 116 = .ok (.getfield 124, 3) := by decide +kernel
theorem dX0_copyFrom_119 : decode cX0_copyFrom 119 = .ok (.putfield 124, 3) := by decide +kernel
theorem dX0_copyFrom_122 : decode cX0_copyFrom 122 = .ok (.aload_n 0, 1) := by decide +kernel
theorem dX0_copyFrom_123 : decode cX0_copyFrom 123 = .ok (.aload_n 1, 1) := by decide +kernel
theorem dX0_copyFrom_124 : decode cX0_copyFrom 124 = .ok (.getfield 158, 3) := by decide +kernel
theorem dX0_copyFrom_127 : decode cX0_copyFrom 127 = .ok (.putfield 158, 3) := by decide +kernel
theorem dX0_copyFrom_130 : decode cX0_copyFrom 130 = .ok (.aload_n 0, 1) := by decide +kernel
theorem dX0_copyFrom_131 : decode cX0_copyFrom 131 = .ok (.aload_n 1, 1) := by decide +kernel
theorem dX0_copyFrom_132 : decode cX0_copyFrom 132 = .ok (.getfield 165, 3) := by decide +kernel
theorem dX0_copyFrom_135 : decode cX0_copyFrom 135 = .ok (.putfield 165, 3) := by decide +kernel
theorem dX0_copyFrom_138 : decode cX0_copyFrom 138 = .ok (.aload_n 0, 1) := by decide +kernel
theorem dX0_copyFrom_139 : decode cX0_copyFrom 139 = .ok (.aload_n 1, 1) := by decide +kernel
theorem dX0_copyFrom_140 : decode cX0_copyFrom 140 = .ok (.getfield 183, 3) := by decide +kernel
theorem dX0_copyFrom_143 : decode cX0_copyFrom 143 = .ok (.putfield 183, 3) := by decide +kernel
theorem dX0_copyFrom_146 : decode cX0_copyFrom 146 = .ok (.aload_n 0, 1) := by decide +kernel
theorem dX0_copyFrom_147 : decode cX0_copyFrom 147 = .ok (.aload_n 1, 1) := by decide +kernel
theorem dX0_copyFrom_148 : decode cX0_copyFrom 148 = .ok (.getfield 130, 3) := by decide +kernel
theorem dX0_copyFrom_151 : decode cX0_copyFrom 151 = .ok (.putfield 130, 3) := by decide +kernel
theorem dX0_copyFrom_154 : decode cX0_copyFrom 154 = .ok (.aload_n 0, 1) := by decide +kernel
theorem dX0_copyFrom_155 : decode cX0_copyFrom 155 = .ok (.aload_n 1, 1) := by decide +kernel
theorem dX0_copyFrom_156 : decode cX0_copyFrom 156 = .ok (.getfield 139, 3) := by decide +kernel
theorem dX0_copyFrom_159 : decode cX0_copyFrom 159 = .ok (.putfield 139, 3) := by decide +kernel
theorem dX0_copyFrom_162 : decode cX0_copyFrom 162 = .ok (.return_, 1) := by decide +kernel
theorem dX1_init_0 : decode cX1_init 0 = .ok (.aload_n 0, 1) := by decide +kernel
theorem dX1_init_1 : decode cX1_init 1 = .ok (.invokespecial 3, 3) := by decide +kernel
theorem dX1_init_4 : decode cX1_init 4 = .ok (.aload_n 0, 1) := by decide +kernel
theorem dX1_init_5 : decode cX1_init 5 = .ok (.iconst 5, 1) := by decide +kernel
theorem dX1_init_6 : decode cX1_init 6 = .ok (.anewarray 9, 3) := by decide +kernel
theorem dX1_init_9 : decode cX1_init 9 = .ok (.putfield 11, 3) := by decide +kernel
theorem dX1_init_12 : decode cX1_init 12 = .ok (.iconst 0, 1) := by decide +kernel
theorem dX1_init_13 : decode cX1_init 13 = .ok (.istore_n 1, 1) := by decide +kernel
theorem dX1_init_14 : decode cX1_init 14 = .ok (.iload_n 1, 1) := by decide +kernel
theorem dX1_init_15 : decode cX1_init 15 = .ok (.aload_n 0, 1) := by decide +kernel
theorem dX1_init_16 : decode cX1_init 16 = .ok (.getfield 11, 3) := by decide +kernel
theorem dX1_init_19 : decode cX1_init 19 = .ok (.arraylength, 1) := by decide +kernel
theorem dX1_init_20 : decode cX1_init 20 = .ok (.if_icmp .ge 22, 3) := by decide +kernel
theorem dX1_init_23 : decode cX1_init 23 = .ok (.aload_n 0, 1) := by decide +kernel
theorem dX1_init_24 : decode cX1_init 24 = .ok (.getfield 11, 3) := by decide +kernel
theorem dX1_init_27 : decode cX1_init 27 = .ok (.iload_n 1, 1) := by decide +kernel
theorem dX1_init_28 : decode cX1_init 28 = .ok (.new 9, 3) := by decide +kernel
theorem dX1_init_31 : decode cX1_init 31 = .ok (.dup, 1) := by decide +kernel
theorem dX1_init_32 : decode cX1_init 32 = .ok (.invokespecial 17, 3) := by decide +kernel
theorem dX1_init_35 : decode cX1_init 35 = .ok (.aastore, 1) := by decide +kernel
theorem dX1_init_36 : decode cX1_init 36 = .ok (.iinc 1 1, 3) := by decide +kernel
theorem dX1_init_39 : decode cX1_init 39 = .ok (.goto (-25), 3) := by decide +kernel
theorem dX1_init_42 : decode cX1_init 42 = .ok (.return_, 1) := by decide +kernel
theorem dX1_record_0 : decode cX1_record 0 = .ok (.aload_n 0, 1) := by decide +kernel
theorem dX1_record_1 : decode cX1_record 1 = .ok (.getfield 18, 3) := by decide +kernel
theorem dX1_record_4 : decode cX1_record 4 = .ok (.iconst 5, 1) := by decide +kernel
theorem dX1_record_5 : decode cX1_record 5 = .ok (.if_icmp .ne 25, 3) := by decide +kernel
theorem dX1_record_8 : decode cX1_record 8 = .ok (.aload_n 0, 1) := by decide +kernel
theorem dX1_record_9 : decode cX1_record 9 = .ok (.aload_n 0, 1) := by decide +kernel
theorem dX1_record_10 : decode cX1_record 10 = .ok (.getfield 22, 3) := by decide +kernel
theorem dX1_record_13 : decode cX1_record 13 = .ok (.iconst 1, 1) := by decide +kernel
theorem dX1_record_14 : decode cX1_record 14 = .ok (.iadd, 1) := by decide +kernel
theorem dX1_record_15 : decode cX1_record 15 = .ok (.iconst 5, 1) := by decide +kernel
theorem dX1_record_16 : decode cX1_record 16 = .ok (.irem, 1) := by decide +kernel
theorem dX1_record_17 : decode cX1_record 17 = .ok (.putfield 22, 3) := by decide +kernel
theorem dX1_record_20 : decode cX1_record 20 = .ok (.aload_n 0, 1) := by decide +kernel
theorem dX1_record_21 : decode cX1_record 21 = .ok (.dup, 1) := by decide +kernel
theorem dX1_record_22 : decode cX1_record 22 = .ok (.getfield 18, 3) := by decide +kernel
theorem dX1_record_25 : decode cX1_record 25 = .ok (.iconst 1, 1) := by decide +kernel
theorem dX1_record_26 : decode cX1_record 26 = .ok (.isub, 1) := by decide +kernel
theorem dX1_record_27 : decode cX1_record 27 = .ok (.putfield 18, 3) := by decide +kernel
theorem dX1_record_30 : decode cX1_record 30 = .ok (.aload_n 0, 1) := by decide +kernel
theorem dX1_record_31 : decode cX1_record 31 = .ok (.aload_n 0, 1) := by decide +kernel
theorem dX1_record_32 : decode cX1_record 32 = .ok (.getfield 18, 3) := by decide +kernel
theorem dX1_record_35 : decode cX1_record 35 = .ok (.invokevirtual 25, 3) := by decide +kernel
theorem dX1_record_38 : decode cX1_record 38 = .ok (.astore_n 2, 1) := by decide +kernel
theorem dX1_record_39 : decode cX1_record 39 = .ok (.aload_n 2, 1) := by decide +kernel
theorem dX1_record_40 : decode cX1_record 40 = .ok (.ifnull 18, 3) := by decide +kernel
theorem dX1_record_43 : decode cX1_record 43 = .ok (.aload_n 2, 1) := by decide +kernel
theorem dX1_record_44 : decode cX1_record 44 = .ok (.aload_n 1, 1) := by decide +kernel
theorem dX1_record_45 : decode cX1_record 45 = .ok (.invokevirtual 29, 3) := by decide +kernel
theorem dX1_record_48 : decode cX1_record 48 = .ok (.aload_n 0, 1) := by decide +kernel
theorem dX1_record_49 : decode cX1_record 49 = .ok (.dup, 1) := by decide +kernel
theorem dX1_record_50 : decode cX1_record 50 = .ok (.getfield 18, 3) := by decide +kernel
theorem dX1_record_53 : decode cX1_record 53 = .ok (.iconst 1, 1) := by decide +kernel
theorem dX1_record_54 : decode cX1_record 54 = .ok (.iadd, 1) := by decide +kernel
theorem dX1_record_55 : decode cX1_record 55 = .ok (.putfield 18, 3) := by decide +kernel
theorem dX1_record_58 : decode cX1_record 58 = .ok (.return_, 1) := by decide +kernel
theorem dX1_removeLatestInto_0 : decode cX1_removeLatestInto 0 = .ok (.aload_n 0, 1) := by decide +kernel
theorem dX1_removeLatestInto_1 : decode cX1_removeLatestInto 1 = .ok (.aload_n 0, 1) := by decide +kernel
theorem dX1_removeLatestInto_2 : decode cX1_removeLatestInto 2 = .ok (.getfield 18, 3) := by decide +kernel
theorem dX1_removeLatestInto_5 : decode cX1_removeLatestInto 5 = .ok (.iconst 1, 1) := by decide +kernel
theorem dX1_removeLatestInto_6 : decode cX1_removeLatestInto 6 = .ok (.isub, 1) := by decide +kernel
theorem dX1_removeLatestInto_7 : decode cX1_removeLatestInto 7 = .ok (.invokevirtual 25, 3) := by decide +kernel
theorem dX1_removeLatestInto_10 : decode cX1_removeLatestInto 10 = .ok (.astore_n 2, 1) := by decide +kernel
theorem dX1_removeLatestInto_11 : decode cX1_removeLatestInto 11 = .ok (.aload_n 2, 1) := by decide +kernel
theorem dX1_removeLatestInto_12 : decode cX1_removeLatestInto 12 = .ok (.ifnull 18, 3) := by decide +kernel
theorem dX1_removeLatestInto_15 : decode cX1_removeLatestInto 15 = .ok (.aload_n 1, 1) := by decide +kernel
theorem dX1_removeLatestInto_16 : decode cX1_removeLatestInto 16 = .ok (.aload_n 2, 1) := by decide +kernel
theorem dX1_removeLatestInto_17 : decode cX1_removeLatestInto 17 = .ok (.invokevirtual 29, 3) := by decide +kernel
theorem dX1_removeLatestInto_20 : decode cX1_removeLatestInto 20 = .ok (.aload_n 0, 1) := by decide +kernel
theorem dX1_removeLatestInto_21 : decode cX1_removeLatestInto 21 = .ok (.dup, 1) := by decide +kernel
theorem dX1_removeLatestInto_22 : decode cX1_removeLatestInto 22 = .ok (.getfield 18, 3) := by decide +kernel
theorem dX1_removeLatestInto_25 : decode cX1_removeLatestInto 25 = .ok (.iconst 1, 1) := by decide +kernel
theorem dX1_removeLatestInto_26 : decode cX1_removeLatestInto 26 = .ok (.isub, 1) := by decide +kernel
theorem dX1_removeLatestInto_27 : decode cX1_removeLatestInto 27 = .ok (.putfield 18, 3) := by decide +kernel
theorem dX1_removeLatestInto_30 : decode cX1_removeLatestInto 30 = .ok (.return_, 1) := by decide +kernel
theorem dX1_row_0 : decode cX1_row 0 = .ok (.aload_n 0, 1) := by decide +kernel
theorem dX1_row_1 : decode cX1_row 1 = .ok (.getfield 22, 3) := by decide +kernel
theorem dX1_row_4 : decode cX1_row 4 = .ok (.iload_n 1, 1) := by decide +kernel
theorem dX1_row_5 : decode cX1_row 5 = .ok (.iadd, 1) := by decide +kernel
theorem dX1_row_6 : decode cX1_row 6 = .ok (.iconst 5, 1) := by decide +kernel
theorem dX1_row_7 : decode cX1_row 7 = .ok (.irem, 1) := by decide +kernel
theorem dX1_row_8 : decode cX1_row 8 = .ok (.istore_n 2, 1) := by decide +kernel
theorem dX1_row_9 : decode cX1_row 9 = .ok (.iload_n 1, 1) := by decide +kernel
theorem dX1_row_10 : decode cX1_row 10 = .ok (.ifCond .lt 25, 3) := by decide +kernel
theorem dX1_row_13 : decode cX1_row 13 = .ok (.iload_n 2, 1) := by decide +kernel
theorem dX1_row_14 : decode cX1_row 14 = .ok (.ifCond .lt 21, 3) := by decide +kernel
theorem dX1_row_17 : decode cX1_row 17 = .ok (.iload_n 2, 1) := by decide +kernel
theorem dX1_row_18 : decode cX1_row 18 = .ok (.aload_n 0, 1) := by decide +kernel
theorem dX1_row_19 : decode cX1_row 19 = .ok (.getfield 11, 3) := by decide +kernel
theorem dX1_row_22 : decode cX1_row 22 = .ok (.arraylength, 1) := by decide +kernel
theorem dX1_row_23 : decode cX1_row 23 = .ok (.if_icmp .ge 12, 3) := by decide +kernel
theorem dX1_row_26 : decode cX1_row 26 = .ok (.aload_n 0, 1) := by decide +kernel
theorem dX1_row_27 : decode cX1_row 27 = .ok (.getfield 11, 3) := by decide +kernel
theorem dX1_row_30 : decode cX1_row 30 = .ok (.iload_n 2, 1) := by decide +kernel
theorem dX1_row_31 : decode cX1_row 31 = .ok (.aaload, 1) := by decide +kernel
theorem dX1_row_32 : decode cX1_row 32 = .ok (.goto 4, 3) := by decide +kernel
theorem dX1_row_35 : decode cX1_row 35 = .ok (.aconst_null, 1) := by decide +kernel
theorem dX1_row_36 : decode cX1_row 36 = .ok (.areturn, 1) := by decide +kernel
theorem dX2_init_0 : decode cX2_init 0 = .ok (.aload_n 0, 1) := by decide +kernel
theorem dX2_init_1 : decode cX2_init 1 = .ok (.invokespecial 3, 3) := by decide +kernel
theorem dX2_init_4 : decode cX2_init 4 = .ok (.aload_n 0, 1) := by decide +kernel
theorem dX2_init_5 : decode cX2_init 5 = .ok (.sipush 200, 3) := by decide +kernel
theorem dX2_init_8 : decode cX2_init 8 = .ok (.newarray .int, 2) := by decide +kernel
theorem dX2_init_10 : decode cX2_init 10 = .ok (.putfield 9, 3) := by decide +kernel
theorem dX2_init_13 : decode cX2_init 13 = .ok (.aload_n 0, 1) := by decide +kernel
theorem dX2_init_14 : decode cX2_init 14 = .ok (.sipush 200, 3) := by decide +kernel
theorem dX2_init_17 : decode cX2_init 17 = .ok (.newarray .int, 2) := by decide +kernel
theorem dX2_init_19 : decode cX2_init 19 = .ok (.putfield 15, 3) := by decide +kernel
theorem dX2_init_22 : decode cX2_init 22 = .ok (.return_, 1) := by decide +kernel
theorem dX2_isFull_0 : decode cX2_isFull 0 = .ok (.aload_n 0, 1) := by decide +kernel
theorem dX2_isFull_1 : decode cX2_isFull 1 = .ok (.getfield 18, 3) := by decide +kernel
theorem dX2_isFull_4 : decode cX2_isFull 4 = .ok (.sipush 200, 3) := by decide +kernel
theorem dX2_isFull_7 : decode cX2_isFull 7 = .ok (.if_icmp .lt 7, 3) := by decide +kernel
theorem dX2_isFull_10 : decode cX2_isFull 10 = .ok (.iconst 1, 1) := by decide +kernel
theorem dX2_isFull_11 : decode cX2_isFull 11 = .ok (.goto 4, 3) := by decide +kernel
theorem dX2_isFull_14 : decode cX2_isFull 14 = .ok (.iconst 0, 1) := by decide +kernel
theorem dX2_isFull_15 : decode cX2_isFull 15 = .ok (.ireturn, 1) := by decide +kernel
theorem dX2_add_0 : decode cX2_add 0 = .ok (.aload_n 0, 1) := by decide +kernel
theorem dX2_add_1 : decode cX2_add 1 = .ok (.getfield 18, 3) := by decide +kernel
theorem dX2_add_4 : decode cX2_add 4 = .ok (.istore_n 3, 1) := by decide +kernel
theorem dX2_add_5 : decode cX2_add 5 = .ok (.iload_n 3, 1) := by decide +kernel
theorem dX2_add_6 : decode cX2_add 6 = .ok (.ifCond .lt 42, 3) := by decide +kernel
theorem dX2_add_9 : decode cX2_add 9 = .ok (.iload_n 3, 1) := by decide +kernel
theorem dX2_add_10 : decode cX2_add 10 = .ok (.aload_n 0, 1) := by decide +kernel
theorem dX2_add_11 : decode cX2_add 11 = .ok (.getfield 9, 3) := by decide +kernel
theorem dX2_add_14 : decode cX2_add 14 = .ok (.arraylength, 1) := by decide +kernel
theorem dX2_add_15 : decode cX2_add 15 = .ok (.if_icmp .ge 33, 3) := by decide +kernel
theorem dX2_add_18 : decode cX2_add 18 = .ok (.iload_n 3, 1) := by decide +kernel
theorem dX2_add_19 : decode cX2_add 19 = .ok (.aload_n 0, 1) := by decide +kernel
theorem dX2_add_20 : decode cX2_add 20 = .ok (.getfield 15, 3) := by decide +kernel
theorem dX2_add_23 : decode cX2_add 23 = .ok (.arraylength, 1) := by decide +kernel
theorem dX2_add_24 : decode cX2_add 24 = .ok (.if_icmp .ge 24, 3) := by decide +kernel
theorem dX2_add_27 : decode cX2_add 27 = .ok (.aload_n 0, 1) := by decide +kernel
theorem dX2_add_28 : decode cX2_add 28 = .ok (.getfield 9, 3) := by decide +kernel
theorem dX2_add_31 : decode cX2_add 31 = .ok (.iload_n 3, 1) := by decide +kernel
theorem dX2_add_32 : decode cX2_add 32 = .ok (.iload_n 1, 1) := by decide +kernel
theorem dX2_add_33 : decode cX2_add 33 = .ok (.iastore, 1) := by decide +kernel
theorem dX2_add_34 : decode cX2_add 34 = .ok (.aload_n 0, 1) := by decide +kernel
theorem dX2_add_35 : decode cX2_add 35 = .ok (.getfield 15, 3) := by decide +kernel
theorem dX2_add_38 : decode cX2_add 38 = .ok (.iload_n 3, 1) := by decide +kernel
theorem dX2_add_39 : decode cX2_add 39 = .ok (.iload_n 2, 1) := by decide +kernel
theorem dX2_add_40 : decode cX2_add 40 = .ok (.iastore, 1) := by decide +kernel
theorem dX2_add_41 : decode cX2_add 41 = .ok (.aload_n 0, 1) := by decide +kernel
theorem dX2_add_42 : decode cX2_add 42 = .ok (.iload_n 3, 1) := by decide +kernel
theorem dX2_add_43 : decode cX2_add 43 = .ok (.iconst 1, 1) := by decide +kernel
theorem dX2_add_44 : decode cX2_add 44 = .ok (.iadd, 1) := by decide +kernel
theorem dX2_add_45 : decode cX2_add 45 = .ok (.putfield 18, 3) := by decide +kernel
theorem dX2_add_48 : decode cX2_add 48 = .ok (.iload_n 3, 1) := by decide +kernel
theorem dX2_add_49 : decode cX2_add 49 = .ok (.ireturn, 1) := by decide +kernel
theorem dX2_cell_0 : decode cX2_cell 0 = .ok (.iload_n 1, 1) := by decide +kernel
theorem dX2_cell_1 : decode cX2_cell 1 = .ok (.ifCond .lt 21, 3) := by decide +kernel
theorem dX2_cell_4 : decode cX2_cell 4 = .ok (.iload_n 1, 1) := by decide +kernel
theorem dX2_cell_5 : decode cX2_cell 5 = .ok (.aload_n 0, 1) := by decide +kernel
theorem dX2_cell_6 : decode cX2_cell 6 = .ok (.getfield 9, 3) := by decide +kernel
theorem dX2_cell_9 : decode cX2_cell 9 = .ok (.arraylength, 1) := by decide +kernel
theorem dX2_cell_10 : decode cX2_cell 10 = .ok (.if_icmp .ge 12, 3) := by decide +kernel
theorem dX2_cell_13 : decode cX2_cell 13 = .ok (.aload_n 0, 1) := by decide +kernel
theorem dX2_cell_14 : decode cX2_cell 14 = .ok (.getfield 9, 3) := by decide +kernel
theorem dX2_cell_17 : decode cX2_cell 17 = .ok (.iload_n 1, 1) := by decide +kernel
theorem dX2_cell_18 : decode cX2_cell 18 = .ok (.iaload, 1) := by decide +kernel
theorem dX2_cell_19 : decode cX2_cell 19 = .ok (.goto 4, 3) := by decide +kernel
theorem dX2_cell_22 : decode cX2_cell 22 = .ok (.iconst 0, 1) := by decide +kernel
theorem dX2_cell_23 : decode cX2_cell 23 = .ok (.ireturn, 1) := by decide +kernel
theorem dX2_newValue_0 : decode cX2_newValue 0 = .ok (.iload_n 1, 1) := by decide +kernel
theorem dX2_newValue_1 : decode cX2_newValue 1 = .ok (.ifCond .lt 21, 3) := by decide +kernel
theorem dX2_newValue_4 : decode cX2_newValue 4 = .ok (.iload_n 1, 1) := by decide +kernel
theorem dX2_newValue_5 : decode cX2_newValue 5 = .ok (.aload_n 0, 1) := by decide +kernel
theorem dX2_newValue_6 : decode cX2_newValue 6 = .ok (.getfield 15, 3) := by decide +kernel
theorem dX2_newValue_9 : decode cX2_newValue 9 = .ok (.arraylength, 1) := by decide +kernel
theorem dX2_newValue_10 : decode cX2_newValue 10 = .ok (.if_icmp .ge 12, 3) := by decide +kernel
theorem dX2_newValue_13 : decode cX2_newValue 13 = .ok (.aload_n 0, 1) := by decide +kernel
theorem dX2_newValue_14 : decode cX2_newValue 14 = .ok (.getfield 15, 3) := by decide +kernel
theorem dX2_newValue_17 : decode cX2_newValue 17 = .ok (.iload_n 1, 1) := by decide +kernel
theorem dX2_newValue_18 : decode cX2_newValue 18 = .ok (.iaload, 1) := by decide +kernel
theorem dX2_newValue_19 : decode cX2_newValue 19 = .ok (.goto 4, 3) := by decide +kernel
theorem dX2_newValue_22 : decode cX2_newValue 22 = .ok (.iconst (-1), 1) := by decide +kernel
theorem dX2_newValue_23 : decode cX2_newValue 23 = .ok (.ireturn, 1) := by decide +kernel
theorem dX2_valueAt_0 : decode cX2_valueAt 0 = .ok (.iload_n 2, 1) := by decide +kernel
theorem dX2_valueAt_1 : decode cX2_valueAt 1 = .ok (.iconst 1, 1) := by decide +kernel
theorem dX2_valueAt_2 : decode cX2_valueAt 2 = .ok (.isub, 1) := by decide +kernel
theorem dX2_valueAt_3 : decode cX2_valueAt 3 = .ok (.istore_n 3, 1) := by decide +kernel
theorem dX2_valueAt_4 : decode cX2_valueAt 4 = .ok (.iload_n 3, 1) := by decide +kernel
theorem dX2_valueAt_5 : decode cX2_valueAt 5 = .ok (.ifCond .lt 24, 3) := by decide +kernel
theorem dX2_valueAt_8 : decode cX2_valueAt 8 = .ok (.aload_n 0, 1) := by decide +kernel
theorem dX2_valueAt_9 : decode cX2_valueAt 9 = .ok (.iload_n 3, 1) := by decide +kernel
theorem dX2_valueAt_10 : decode cX2_valueAt 10 = .ok (.invokevirtual 22, 3) := by decide +kernel
theorem dX2_valueAt_13 : decode cX2_valueAt 13 = .ok (.iload_n 1, 1) := by decide +kernel
theorem dX2_valueAt_14 : decode cX2_valueAt 14 = .ok (.if_icmp .ne 9, 3) := by decide +kernel
theorem dX2_valueAt_17 : decode cX2_valueAt 17 = .ok (.aload_n 0, 1) := by decide +kernel
theorem dX2_valueAt_18 : decode cX2_valueAt 18 = .ok (.iload_n 3, 1) := by decide +kernel
theorem dX2_valueAt_19 : decode cX2_valueAt 19 = .ok (.invokevirtual 26, 3) := by decide +kernel
theorem dX2_valueAt_22 : decode cX2_valueAt 22 = .ok (.ireturn, 1) := by decide +kernel
theorem dX2_valueAt_23 : decode cX2_valueAt 23 = .ok (.iinc 3 (-1), 3) := by decide +kernel
theorem dX2_valueAt_26 : decode cX2_valueAt 26 = .ok (.goto (-22), 3) := by decide +kernel
theorem dX2_valueAt_29 : decode cX2_valueAt 29 = .ok (.iconst (-1), 1) := by decide +kernel
theorem dX2_valueAt_30 : decode cX2_valueAt 30 = .ok (.ireturn, 1) := by decide +kernel
theorem dX2_copyFrom_0 : decode cX2_copyFrom 0 = .ok (.aload_n 1, 1) := by decide +kernel
theorem dX2_copyFrom_1 : decode cX2_copyFrom 1 = .ok (.getfield 18, 3) := by decide +kernel
theorem dX2_copyFrom_4 : decode cX2_copyFrom 4 = .ok (.istore_n 2, 1) := by decide +kernel
theorem dX2_copyFrom_5 : decode cX2_copyFrom 5 = .ok (.iload_n 2, 1) := by decide +kernel
theorem dX2_copyFrom_6 : decode cX2_copyFrom 6 = .ok (.ifCond .lt 72, 3) := by decide +kernel
theorem dX2_copyFrom_9 : decode cX2_copyFrom 9 = .ok (.iload_n 2, 1) := by decide +kernel
theorem dX2_copyFrom_10 : decode cX2_copyFrom 10 = .ok (.aload_n 0, 1) := by decide +kernel
theorem dX2_copyFrom_11 : decode cX2_copyFrom 11 = .ok (.getfield 9, 3) := by decide +kernel
theorem dX2_copyFrom_14 : decode cX2_copyFrom 14 = .ok (.arraylength, 1) := by decide +kernel
theorem dX2_copyFrom_15 : decode cX2_copyFrom 15 = .ok (.if_icmp .gt 63, 3) := by decide +kernel
theorem dX2_copyFrom_18 : decode cX2_copyFrom 18 = .ok (.iload_n 2, 1) := by decide +kernel
theorem dX2_copyFrom_19 : decode cX2_copyFrom 19 = .ok (.aload_n 0, 1) := by decide +kernel
theorem dX2_copyFrom_20 : decode cX2_copyFrom 20 = .ok (.getfield 15, 3) := by decide +kernel
theorem dX2_copyFrom_23 : decode cX2_copyFrom 23 = .ok (.arraylength, 1) := by decide +kernel
theorem dX2_copyFrom_24 : decode cX2_copyFrom 24 = .ok (.if_icmp .gt 54, 3) := by decide +kernel
theorem dX2_copyFrom_27 : decode cX2_copyFrom 27 = .ok (.iload_n 2, 1) := by decide +kernel
theorem dX2_copyFrom_28 : decode cX2_copyFrom 28 = .ok (.aload_n 1, 1) := by decide +kernel
theorem dX2_copyFrom_29 : decode cX2_copyFrom 29 = .ok (.getfield 9, 3) := by decide +kernel
theorem dX2_copyFrom_32 : decode cX2_copyFrom 32 = .ok (.arraylength, 1) := by decide +kernel
theorem dX2_copyFrom_33 : decode cX2_copyFrom 33 = .ok (.if_icmp .gt 45, 3) := by decide +kernel
theorem dX2_copyFrom_36 : decode cX2_copyFrom 36 = .ok (.iload_n 2, 1) := by decide +kernel
theorem dX2_copyFrom_37 : decode cX2_copyFrom 37 = .ok (.aload_n 1, 1) := by decide +kernel
theorem dX2_copyFrom_38 : decode cX2_copyFrom 38 = .ok (.getfield 15, 3) := by decide +kernel
theorem dX2_copyFrom_41 : decode cX2_copyFrom 41 = .ok (.arraylength, 1) := by decide +kernel
theorem dX2_copyFrom_42 : decode cX2_copyFrom 42 = .ok (.if_icmp .gt 36, 3) := by decide +kernel
theorem dX2_copyFrom_45 : decode cX2_copyFrom 45 = .ok (.aload_n 1, 1) := by decide +kernel
theorem dX2_copyFrom_46 : decode cX2_copyFrom 46 = .ok (.getfield 9, 3) := by decide +kernel
theorem dX2_copyFrom_49 : decode cX2_copyFrom 49 = .ok (.iconst 0, 1) := by decide +kernel
theorem dX2_copyFrom_50 : decode cX2_copyFrom 50 = .ok (.aload_n 0, 1) := by decide +kernel
theorem dX2_copyFrom_51 : decode cX2_copyFrom 51 = .ok (.getfield 9, 3) := by decide +kernel
theorem dX2_copyFrom_54 : decode cX2_copyFrom 54 = .ok (.iconst 0, 1) := by decide +kernel
theorem dX2_copyFrom_55 : decode cX2_copyFrom 55 = .ok (.iload_n 2, 1) := by decide +kernel
theorem dX2_copyFrom_56 : decode cX2_copyFrom 56 = .ok (.invokestatic 29, 3) := by decide +kernel
theorem dX2_copyFrom_59 : decode cX2_copyFrom 59 = .ok (.aload_n 1, 1) := by decide +kernel
theorem dX2_copyFrom_60 : decode cX2_copyFrom 60 = .ok (.getfield 15, 3) := by decide +kernel
theorem dX2_copyFrom_63 : decode cX2_copyFrom 63 = .ok (.iconst 0, 1) := by decide +kernel
theorem dX2_copyFrom_64 : decode cX2_copyFrom 64 = .ok (.aload_n 0, 1) := by decide +kernel
theorem dX2_copyFrom_65 : decode cX2_copyFrom 65 = .ok (.getfield 15, 3) := by decide +kernel
theorem dX2_copyFrom_68 : decode cX2_copyFrom 68 = .ok (.iconst 0, 1) := by decide +kernel
theorem dX2_copyFrom_69 : decode cX2_copyFrom 69 = .ok (.iload_n 2, 1) := by decide +kernel
theorem dX2_copyFrom_70 : decode cX2_copyFrom 70 = .ok (.invokestatic 29, 3) := by decide +kernel
theorem dX2_copyFrom_73 : decode cX2_copyFrom 73 = .ok (.aload_n 0, 1) := by decide +kernel
theorem dX2_copyFrom_74 : decode cX2_copyFrom 74 = .ok (.iload_n 2, 1) := by decide +kernel
theorem dX2_copyFrom_75 : decode cX2_copyFrom 75 = .ok (.putfield 18, 3) := by decide +kernel
theorem dX2_copyFrom_78 : decode cX2_copyFrom 78 = .ok (.return_, 1) := by decide +kernel
theorem dX3_init_0 : decode cX3_init 0 = .ok (.aload_n 0, 1) := by decide +kernel
theorem dX3_init_1 : decode cX3_init 1 = .ok (.invokespecial 3, 3) := by decide +kernel
theorem dX3_init_4 : decode cX3_init 4 = .ok (.aload_n 0, 1) := by decide +kernel
theorem dX3_init_5 : decode cX3_init 5 = .ok (.new 9, 3) := by decide +kernel
theorem dX3_init_8 : decode cX3_init 8 = .ok (.dup, 1) := by decide +kernel
theorem dX3_init_9 : decode cX3_init 9 = .ok (.invokespecial 11, 3) := by decide +kernel
theorem dX3_init_12 : decode cX3_init 12 = .ok (.putfield 12, 3) := by decide +kernel
theorem dX3_init_15 : decode cX3_init 15 = .ok (.aload_n 0, 1) := by decide +kernel
theorem dX3_init_16 : decode cX3_init 16 = .ok (.iconst (-1), 1) := by decide +kernel
theorem dX3_init_17 : decode cX3_init 17 = .ok (.putfield 18, 3) := by decide +kernel
theorem dX3_init_20 : decode cX3_init 20 = .ok (.return_, 1) := by decide +kernel
theorem dX3_read_0 : decode cX3_read 0 = .ok (.aload_n 0, 1) := by decide +kernel
theorem dX3_read_1 : decode cX3_read 1 = .ok (.iconst 0, 1) := by decide +kernel
theorem dX3_read_2 : decode cX3_read 2 = .ok (.putfield 22, 3) := by decide +kernel
theorem dX3_read_5 : decode cX3_read 5 = .ok (.aload_n 0, 1) := by decide +kernel
theorem dX3_read_6 : decode cX3_read 6 = .ok (.iconst (-1), 1) := by decide +kernel
theorem dX3_read_7 : decode cX3_read 7 = .ok (.putfield 18, 3) := by decide +kernel
theorem dX3_read_10 : decode cX3_read 10 = .ok (.aload_n 0, 1) := by decide +kernel
theorem dX3_read_11 : decode cX3_read 11 = .ok (.aload_n 0, 1) := by decide +kernel
theorem dX3_read_12 : decode cX3_read 12 = .ok (.invokevirtual 25, 3) := by decide +kernel
theorem dX3_read_15 : decode cX3_read 15 = .ok (.putfield 29, 3) := by decide +kernel
theorem dX3_read_18 : decode cX3_read 18 = .ok (.aload_n 0, 1) := by decide +kernel
theorem dX3_read_19 : decode cX3_read 19 = .ok (.aload_n 0, 1) := by decide +kernel
theorem dX3_read_20 : decode cX3_read 20 = .ok (.getfield 29, 3) := by decide +kernel
theorem dX3_read_23 : decode cX3_read 23 = .ok (.iconst 3, 1) := by decide +kernel
theorem dX3_read_24 : decode cX3_read 24 = .ok (.if_icmp .eq 11, 3) := by decide +kernel
theorem dX3_read_27 : decode cX3_read 27 = .ok (.aload_n 0, 1) := by decide +kernel
theorem dX3_read_28 : decode cX3_read 28 = .ok (.getfield 29, 3) := by decide +kernel
theorem dX3_read_31 : decode cX3_read 31 = .ok (.iconst 4, 1) := by decide +kernel
theorem dX3_read_32 : decode cX3_read 32 = .ok (.if_icmp .ne 7, 3) := by decide +kernel
theorem dX3_read_35 : decode cX3_read 35 = .ok (.iconst 0, 1) := by decide +kernel
theorem dX3_read_36 : decode cX3_read 36 = .ok (.goto 7, 3) := by decide +kernel
theorem dX3_read_39 : decode cX3_read 39 = .ok (.aload_n 0, 1) := by decide +kernel
theorem dX3_read_40 : decode cX3_read 40 = .ok (.invokevirtual 32, 3) := by decide +kernel
theorem dX3_read_43 : decode cX3_read 43 = .ok (.putfield 35, 3) := by decide +kernel
theorem dX3_read_46 : decode cX3_read 46 = .ok (.aload_n 0, 1) := by decide +kernel
theorem dX3_read_47 : decode cX3_read 47 = .ok (.aload_n 0, 1) := by decide +kernel
theorem dX3_read_48 : decode cX3_read 48 = .ok (.invokevirtual 38, 3) := by decide +kernel
theorem dX3_read_51 : decode cX3_read 51 = .ok (.putfield 41, 3) := by decide +kernel
theorem dX3_read_54 : decode cX3_read 54 = .ok (.aload_n 0, 1) := by decide +kernel
theorem dX3_read_55 : decode cX3_read 55 = .ok (.getfield 29, 3) := by decide +kernel
theorem dX3_read_58 : decode cX3_read 58 = .ok (.iconst 4, 1) := by decide +kernel
theorem dX3_read_59 : decode cX3_read 59 = .ok (.if_icmp .eq 7, 3) := by decide +kernel
theorem dX3_read_62 : decode cX3_read 62 = .ok (.aload_n 0, 1) := by decide +kernel
theorem dX3_read_63 : decode cX3_read 63 = .ok (.invokevirtual 44, 3) := by decide +kernel
theorem dX3_read_66 : decode cX3_read 66 = .ok (.aload_n 0, 1) := by decide +kernel
theorem dX3_read_67 : decode cX3_read 67 = .ok (.aload_n 0, 1) := by decide +kernel
theorem dX3_read_68 : decode cX3_read 68 = .ok (.invokevirtual 38, 3) := by decide +kernel
theorem dX3_read_71 : decode cX3_read 71 = .ok (.putfield 47, 3) := by decide +kernel
theorem dX3_read_74 : decode cX3_read 74 = .ok (.aload_n 0, 1) := by decide +kernel
theorem dX3_read_75 : decode cX3_read 75 = .ok (.invokevirtual 50, 3) := by decide +kernel
theorem dX3_read_78 : decode cX3_read 78 = .ok (.return_, 1) := by decide +kernel
theorem dX3_hasFault_0 : decode cX3_hasFault 0 = .ok (.aload_n 0, 1) := by decide +kernel
theorem dX3_hasFault_1 : decode cX3_hasFault 1 = .ok (.getfield 18, 3) := by decide +kernel
theorem dX3_hasFault_4 : decode cX3_hasFault 4 = .ok (.iconst (-1), 1) := by decide +kernel
theorem dX3_hasFault_5 : decode cX3_hasFault 5 = .ok (.if_icmp .eq 7, 3) := by decide +kernel
theorem dX3_hasFault_8 : decode cX3_hasFault 8 = .ok (.iconst 1, 1) := by decide +kernel
theorem dX3_hasFault_9 : decode cX3_hasFault 9 = .ok (.goto 4, 3) := by decide +kernel
theorem dX3_hasFault_12 : decode cX3_hasFault 12 = .ok (.iconst 0, 1) := by decide +kernel
theorem dX3_hasFault_13 : decode cX3_hasFault 13 = .ok (.ireturn, 1) := by decide +kernel
theorem dX3_readKind_0 : decode cX3_readKind 0 = .ok (.aload_n 0, 1) := by decide +kernel
theorem dX3_readKind_1 : decode cX3_readKind 1 = .ok (.invokevirtual 53, 3) := by decide +kernel
theorem dX3_readKind_4 : decode cX3_readKind 4 = .ok (.iconst 0, 1) := by decide +kernel
theorem dX3_readKind_5 : decode cX3_readKind 5 = .ok (.istore_n 1, 1) := by decide +kernel
theorem dX3_readKind_6 : decode cX3_readKind 6 = .ok (.iload_n 1, 1) := by decide +kernel
theorem dX3_readKind_7 : decode cX3_readKind 7 = .ok (.iconst 5, 1) := by decide +kernel
theorem dX3_readKind_8 : decode cX3_readKind 8 = .ok (.if_icmp .ge 22, 3) := by decide +kernel
theorem dX3_readKind_11 : decode cX3_readKind 11 = .ok (.aload_n 0, 1) := by decide +kernel
theorem dX3_readKind_12 : decode cX3_readKind 12 = .ok (.iload_n 1, 1) := by decide +kernel
theorem dX3_readKind_13 : decode cX3_readKind 13 = .ok (.invokestatic 56, 3) := by decide +kernel
theorem dX3_readKind_16 : decode cX3_readKind 16 = .ok (.invokevirtual 60, 3) := by decide +kernel
theorem dX3_readKind_19 : decode cX3_readKind 19 = .ok (.ifCond .eq 5, 3) := by decide +kernel
theorem dX3_readKind_22 : decode cX3_readKind 22 = .ok (.iload_n 1, 1) := by decide +kernel
theorem dX3_readKind_23 : decode cX3_readKind 23 = .ok (.ireturn, 1) := by decide +kernel
theorem dX3_readKind_24 : decode cX3_readKind 24 = .ok (.iinc 1 1, 3) := by decide +kernel
theorem dX3_readKind_27 : decode cX3_readKind 27 = .ok (.goto (-21), 3) := by decide +kernel
theorem dX3_readKind_30 : decode cX3_readKind 30 = .ok (.aload_n 0, 1) := by decide +kernel
theorem dX3_readKind_31 : decode cX3_readKind 31 = .ok (.invokevirtual 64, 3) := by decide +kernel
theorem dX3_readKind_34 : decode cX3_readKind 34 = .ok (.iconst 0, 1) := by decide +kernel
theorem dX3_readKind_35 : decode cX3_readKind 35 = .ok (.ireturn, 1) := by decide +kernel
theorem dX3_readTable_0 : decode cX3_readTable 0 = .ok (.aload_n 0, 1) := by decide +kernel
theorem dX3_readTable_1 : decode cX3_readTable 1 = .ok (.invokevirtual 53, 3) := by decide +kernel
theorem dX3_readTable_4 : decode cX3_readTable 4 = .ok (.aload_n 0, 1) := by decide +kernel
theorem dX3_readTable_5 : decode cX3_readTable 5 = .ok (.ldc 67, 2) := by decide +kernel
theorem dX3_readTable_7 : decode cX3_readTable 7 = .ok (.invokevirtual 60, 3) := by decide +kernel
theorem dX3_readTable_10 : decode cX3_readTable 10 = .ok (.ifCond .eq 5, 3) := by decide +kernel
theorem dX3_readTable_13 : decode cX3_readTable 13 = .ok (.iconst 0, 1) := by decide +kernel
theorem dX3_readTable_14 : decode cX3_readTable 14 = .ok (.ireturn, 1) := by decide +kernel
theorem dX3_readTable_15 : decode cX3_readTable 15 = .ok (.aload_n 0, 1) := by decide +kernel
theorem dX3_readTable_16 : decode cX3_readTable 16 = .ok (.ldc 69, 2) := by decide +kernel
theorem dX3_readTable_18 : decode cX3_readTable 18 = .ok (.invokevirtual 60, 3) := by decide +kernel
theorem dX3_readTable_21 : decode cX3_readTable 21 = .ok (.ifCond .ne 7, 3) := by decide +kernel
theorem dX3_readTable_24 : decode cX3_readTable 24 = .ok (.aload_n 0, 1) := by decide +kernel
theorem dX3_readTable_25 : decode cX3_readTable 25 = .ok (.invokevirtual 64, 3) := by decide +kernel
theorem dX3_readTable_28 : decode cX3_readTable 28 = .ok (.iconst 1, 1) := by decide +kernel
theorem dX3_readTable_29 : decode cX3_readTable 29 = .ok (.ireturn, 1) := by decide +kernel
theorem dX3_readNumber_0 : decode cX3_readNumber 0 = .ok (.aload_n 0, 1) := by decide +kernel
theorem dX3_readNumber_1 : decode cX3_readNumber 1 = .ok (.invokevirtual 53, 3) := by decide +kernel
theorem dX3_readNumber_4 : decode cX3_readNumber 4 = .ok (.aload_n 0, 1) := by decide +kernel
theorem dX3_readNumber_5 : decode cX3_readNumber 5 = .ok (.getfield 22, 3) := by decide +kernel
theorem dX3_readNumber_8 : decode cX3_readNumber 8 = .ok (.aload_n 0, 1) := by decide +kernel
theorem dX3_readNumber_9 : decode cX3_readNumber 9 = .ok (.getfield 71, 3) := by decide +kernel
theorem dX3_readNumber_12 : decode cX3_readNumber 12 = .ok (.isub, 1) := by decide +kernel
theorem dX3_readNumber_13 : decode cX3_readNumber 13 = .ok (.istore_n 1, 1) := by decide +kernel
theorem dX3_readNumber_14 : decode cX3_readNumber 14 = .ok (.aload_n 0, 1) := by decide +kernel
theorem dX3_readNumber_15 : decode cX3_readNumber 15 = .ok (.getfield 12, 3) := by decide +kernel
theorem dX3_readNumber_18 : decode cX3_readNumber 18 = .ok (.aload_n 0, 1) := by decide +kernel
theorem dX3_readNumber_19 : decode cX3_readNumber 19 = .ok (.getfield 71, 3) := by decide +kernel
theorem dX3_readNumber_22 : decode cX3_readNumber 22 = .ok (.invokevirtual 74, 3) := by decide +kernel
theorem dX3_readNumber_25 : decode cX3_readNumber 25 = .ok (.istore_n 2, 1) := by decide +kernel
theorem dX3_readNumber_26 : decode cX3_readNumber 26 = .ok (.iload_n 2, 1) := by decide +kernel
theorem dX3_readNumber_27 : decode cX3_readNumber 27 = .ok (.invokestatic 78, 3) := by decide +kernel
theorem dX3_readNumber_30 : decode cX3_readNumber 30 = .ok (.ifCond .eq 19, 3) := by decide +kernel
theorem dX3_readNumber_33 : decode cX3_readNumber 33 = .ok (.iload_n 1, 1) := by decide +kernel
theorem dX3_readNumber_34 : decode cX3_readNumber 34 = .ok (.iconst 2, 1) := by decide +kernel
theorem dX3_readNumber_35 : decode cX3_readNumber 35 = .ok (.if_icmp .gt 14, 3) := by decide +kernel
theorem dX3_readNumber_38 : decode cX3_readNumber 38 = .ok (.iload_n 1, 1) := by decide +kernel
theorem dX3_readNumber_39 : decode cX3_readNumber 39 = .ok (.iconst 2, 1) := by decide +kernel
theorem dX3_readNumber_40 : decode cX3_readNumber 40 = .ok (.if_icmp .ne 15, 3) := by decide +kernel
theorem dX3_readNumber_43 : decode cX3_readNumber 43 = .ok (.iload_n 2, 1) := by decide +kernel
theorem dX3_readNumber_44 : decode cX3_readNumber 44 = .ok (.bipush 48, 2) := by decide +kernel
theorem dX3_readNumber_46 : decode cX3_readNumber 46 = .ok (.if_icmp .ne 9, 3) := by decide +kernel
theorem dX3_readNumber_49 : decode cX3_readNumber 49 = .ok (.aload_n 0, 1) := by decide +kernel
theorem dX3_readNumber_50 : decode cX3_readNumber 50 = .ok (.invokevirtual 64, 3) := by decide +kernel
theorem dX3_readNumber_53 : decode cX3_readNumber 53 = .ok (.iconst 0, 1) := by decide +kernel
theorem dX3_readNumber_54 : decode cX3_readNumber 54 = .ok (.ireturn, 1) := by decide +kernel
theorem dX3_readNumber_55 : decode cX3_readNumber 55 = .ok (.iload_n 2, 1) := by decide +kernel
theorem dX3_readNumber_56 : decode cX3_readNumber 56 = .ok (.bipush 48, 2) := by decide +kernel
theorem dX3_readNumber_58 : decode cX3_readNumber 58 = .ok (.isub, 1) := by decide +kernel
theorem dX3_readNumber_59 : decode cX3_readNumber 59 = .ok (.istore_n 3, 1) := by decide +kernel
theorem dX3_readNumber_60 : decode cX3_readNumber 60 = .ok (.iload_n 1, 1) := by decide +kernel
theorem dX3_readNumber_61 : decode cX3_readNumber 61 = .ok (.iconst 1, 1) := by decide +kernel
theorem dX3_readNumber_62 : decode cX3_readNumber 62 = .ok (.if_icmp .ne 7, 3) := by decide +kernel
theorem dX3_readNumber_65 : decode cX3_readNumber 65 = .ok (.iload_n 3, 1) := by decide +kernel
theorem dX3_readNumber_66 : decode cX3_readNumber 66 = .ok (.goto 24, 3) := by decide +kernel
theorem dX3_readNumber_69 : decode cX3_readNumber 69 = .ok (.iload_n 3, 1) := by decide +kernel
theorem dX3_readNumber_70 : decode cX3_readNumber 70 = .ok (.bipush 10, 2) := by decide +kernel
theorem dX3_readNumber_72 : decode cX3_readNumber 72 = .ok (.imul, 1) := by decide +kernel
theorem dX3_readNumber_73 : decode cX3_readNumber 73 = .ok (.aload_n 0, 1) := by decide +kernel
theorem dX3_readNumber_74 : decode cX3_readNumber 74 = .ok (.getfield 12, 3) := by decide +kernel
theorem dX3_readNumber_77 : decode cX3_readNumber 77 = .ok (.aload_n 0, 1) := by decide +kernel
theorem dX3_readNumber_78 : decode cX3_readNumber 78 = .ok (.getfield 71, 3) := by decide +kernel
theorem dX3_readNumber_81 : decode cX3_readNumber 81 = .ok (.iconst 1, 1) := by decide +kernel
theorem dX3_readNumber_82 : decode cX3_readNumber 82 = .ok (.iadd, 1) := by decide +kernel
theorem dX3_readNumber_83 : decode cX3_readNumber 83 = .ok (.invokevirtual 74, 3) := by decide +kernel
theorem dX3_readNumber_86 : decode cX3_readNumber 86 = .ok (.iadd, 1) := by decide +kernel
theorem dX3_readNumber_87 : decode cX3_readNumber 87 = .ok (.bipush 48, 2) := by decide +kernel
theorem dX3_readNumber_89 : decode cX3_readNumber 89 = .ok (.isub, 1) := by decide +kernel
theorem dX3_readNumber_90 : decode cX3_readNumber 90 = .ok (.ireturn, 1) := by decide +kernel
theorem dX3_readDash_0 : decode cX3_readDash 0 = .ok (.aload_n 0, 1) := by decide +kernel
theorem dX3_readDash_1 : decode cX3_readDash 1 = .ok (.invokevirtual 53, 3) := by decide +kernel
theorem dX3_readDash_4 : decode cX3_readDash 4 = .ok (.aload_n 0, 1) := by decide +kernel
theorem dX3_readDash_5 : decode cX3_readDash 5 = .ok (.ldc 82, 2) := by decide +kernel
theorem dX3_readDash_7 : decode cX3_readDash 7 = .ok (.invokevirtual 60, 3) := by decide +kernel
theorem dX3_readDash_10 : decode cX3_readDash 10 = .ok (.ifCond .ne 7, 3) := by decide +kernel
theorem dX3_readDash_13 : decode cX3_readDash 13 = .ok (.aload_n 0, 1) := by decide +kernel
theorem dX3_readDash_14 : decode cX3_readDash 14 = .ok (.invokevirtual 64, 3) := by decide +kernel
theorem dX3_readDash_17 : decode cX3_readDash 17 = .ok (.return_, 1) := by decide +kernel
theorem dX3_readEnd_0 : decode cX3_readEnd 0 = .ok (.aload_n 0, 1) := by decide +kernel
theorem dX3_readEnd_1 : decode cX3_readEnd 1 = .ok (.invokevirtual 53, 3) := by decide +kernel
theorem dX3_readEnd_4 : decode cX3_readEnd 4 = .ok (.aload_n 0, 1) := by decide +kernel
theorem dX3_readEnd_5 : decode cX3_readEnd 5 = .ok (.getfield 71, 3) := by decide +kernel
theorem dX3_readEnd_8 : decode cX3_readEnd 8 = .ok (.aload_n 0, 1) := by decide +kernel
theorem dX3_readEnd_9 : decode cX3_readEnd 9 = .ok (.getfield 12, 3) := by decide +kernel
theorem dX3_readEnd_12 : decode cX3_readEnd 12 = .ok (.getfield 84, 3) := by decide +kernel
theorem dX3_readEnd_15 : decode cX3_readEnd 15 = .ok (.if_icmp .ge 7, 3) := by decide +kernel
theorem dX3_readEnd_18 : decode cX3_readEnd 18 = .ok (.aload_n 0, 1) := by decide +kernel
theorem dX3_readEnd_19 : decode cX3_readEnd 19 = .ok (.invokevirtual 64, 3) := by decide +kernel
theorem dX3_readEnd_22 : decode cX3_readEnd 22 = .ok (.return_, 1) := by decide +kernel
theorem dX3_advance_0 : decode cX3_advance 0 = .ok (.aload_n 0, 1) := by decide +kernel
theorem dX3_advance_1 : decode cX3_advance 1 = .ok (.aload_n 0, 1) := by decide +kernel
theorem dX3_advance_2 : decode cX3_advance 2 = .ok (.getfield 22, 3) := by decide +kernel
theorem dX3_advance_5 : decode cX3_advance 5 = .ok (.putfield 71, 3) := by decide +kernel
theorem dX3_advance_8 : decode cX3_advance 8 = .ok (.aload_n 0, 1) := by decide +kernel
theorem dX3_advance_9 : decode cX3_advance 9 = .ok (.getfield 71, 3) := by decide +kernel
theorem dX3_advance_12 : decode cX3_advance 12 = .ok (.aload_n 0, 1) := by decide +kernel
theorem dX3_advance_13 : decode cX3_advance 13 = .ok (.getfield 12, 3) := by decide +kernel
theorem dX3_advance_16 : decode cX3_advance 16 = .ok (.getfield 84, 3) := by decide +kernel
theorem dX3_advance_19 : decode cX3_advance 19 = .ok (.if_icmp .ge 32, 3) := by decide +kernel
theorem dX3_advance_22 : decode cX3_advance 22 = .ok (.aload_n 0, 1) := by decide +kernel
theorem dX3_advance_23 : decode cX3_advance 23 = .ok (.getfield 12, 3) := by decide +kernel
theorem dX3_advance_26 : decode cX3_advance 26 = .ok (.aload_n 0, 1) := by decide +kernel
theorem dX3_advance_27 : decode cX3_advance 27 = .ok (.getfield 71, 3) := by decide +kernel
theorem dX3_advance_30 : decode cX3_advance 30 = .ok (.invokevirtual 74, 3) := by decide +kernel
theorem dX3_advance_33 : decode cX3_advance 33 = .ok (.bipush 32, 2) := by decide +kernel
theorem dX3_advance_35 : decode cX3_advance 35 = .ok (.if_icmp .ne 16, 3) := by decide +kernel
theorem dX3_advance_38 : decode cX3_advance 38 = .ok (.aload_n 0, 1) := by decide +kernel
theorem dX3_advance_39 : decode cX3_advance 39 = .ok (.dup, 1) := by decide +kernel
theorem dX3_advance_40 : decode cX3_advance 40 = .ok (.getfield 71, 3) := by decide +kernel
theorem dX3_advance_43 : decode cX3_advance 43 = .ok (.iconst 1, 1) := by decide +kernel
theorem dX3_advance_44 : decode cX3_advance 44 = .ok (.iadd, 1) := by decide +kernel
theorem dX3_advance_45 : decode cX3_advance 45 = .ok (.putfield 71, 3) := by decide +kernel
theorem dX3_advance_48 : decode cX3_advance 48 = .ok (.goto (-40), 3) := by decide +kernel
theorem dX3_advance_51 : decode cX3_advance 51 = .ok (.aload_n 0, 1) := by decide +kernel
theorem dX3_advance_52 : decode cX3_advance 52 = .ok (.aload_n 0, 1) := by decide +kernel
theorem dX3_advance_53 : decode cX3_advance 53 = .ok (.getfield 71, 3) := by decide +kernel
theorem dX3_advance_56 : decode cX3_advance 56 = .ok (.putfield 22, 3) := by decide +kernel
theorem dX3_advance_59 : decode cX3_advance 59 = .ok (.aload_n 0, 1) := by decide +kernel
theorem dX3_advance_60 : decode cX3_advance 60 = .ok (.getfield 71, 3) := by decide +kernel
end
section
theorem dX3_advance_63 : decode cX3_advance 63 = .ok (.aload_n 0, 1) := by decide +kernel
theorem dX3_advance_64 : decode cX3_advance 64 = .ok (.getfield 12, 3) := by decide +kernel
theorem dX3_advance_67 : decode cX3_advance 67 = .ok (.getfield 84, 3) := by decide +kernel
theorem dX3_advance_70 : decode cX3_advance 70 = .ok (.if_icmp .ge 68, 3) := by decide +kernel
theorem dX3_advance_73 : decode cX3_advance 73 = .ok (.aload_n 0, 1) := by decide +kernel
theorem dX3_advance_74 : decode cX3_advance 74 = .ok (.aload_n 0, 1) := by decide +kernel
theorem dX3_advance_75 : decode cX3_advance 75 = .ok (.getfield 71, 3) := by decide +kernel
theorem dX3_advance_78 : decode cX3_advance 78 = .ok (.iconst 1, 1) := by decide +kernel
theorem dX3_advance_79 : decode cX3_advance 79 = .ok (.iadd, 1) := by decide +kernel
theorem dX3_advance_80 : decode cX3_advance 80 = .ok (.putfield 22, 3) := by decide +kernel
theorem dX3_advance_83 : decode cX3_advance 83 = .ok (.aload_n 0, 1) := by decide +kernel
theorem dX3_advance_84 : decode cX3_advance 84 = .ok (.getfield 22, 3) := by decide +kernel
theorem dX3_advance_87 : decode cX3_advance 87 = .ok (.aload_n 0, 1) := by decide +kernel
theorem dX3_advance_88 : decode cX3_advance 88 = .ok (.getfield 12, 3) := by decide +kernel
theorem dX3_advance_91 : decode cX3_advance 91 = .ok (.getfield 84, 3) := by decide +kernel
theorem dX3_advance_94 : decode cX3_advance 94 = .ok (.if_icmp .ge 44, 3) := by decide +kernel
theorem dX3_advance_97 : decode cX3_advance 97 = .ok (.aload_n 0, 1) := by decide +kernel
theorem dX3_advance_98 : decode cX3_advance 98 = .ok (.getfield 12, 3) := by decide +kernel
theorem dX3_advance_101 : decode cX3_advance 101 = .ok (.aload_n 0, 1) := by decide +kernel
theorem dX3_advance_102 : decode cX3_advance 102 = .ok (.getfield 71, 3) := by decide +kernel
theorem dX3_advance_105 : decode cX3_advance 105 = .ok (.invokevirtual 74, 3) := by decide +kernel
theorem dX3_advance_108 : decode cX3_advance 108 = .ok (.aload_n 0, 1) := by decide +kernel
theorem dX3_advance_109 : decode cX3_advance 109 = .ok (.getfield 12, 3) := by decide +kernel
theorem dX3_advance_112 : decode cX3_advance 112 = .ok (.aload_n 0, 1) := by decide +kernel
theorem dX3_advance_113 : decode cX3_advance 113 = .ok (.getfield 22, 3) := by decide +kernel
theorem dX3_advance_116 : decode cX3_advance 116 = .ok (.invokevirtual 74, 3) := by decide +kernel
theorem dX3_advance_119 : decode cX3_advance 119 = .ok (.invokestatic 87, 3) := by decide +kernel
theorem dX3_advance_122 : decode cX3_advance 122 = .ok (.ifCond .eq 16, 3) := by decide +kernel
theorem dX3_advance_125 : decode cX3_advance 125 = .ok (.aload_n 0, 1) := by decide +kernel
theorem dX3_advance_126 : decode cX3_advance 126 = .ok (.dup, 1) := by decide +kernel
theorem dX3_advance_127 : decode cX3_advance 127 = .ok (.getfield 22, 3) := by decide +kernel
theorem dX3_advance_130 : decode cX3_advance 130 = .ok (.iconst 1, 1) := by decide +kernel
theorem dX3_advance_131 : decode cX3_advance 131 = .ok (.iadd, 1) := by decide +kernel
theorem dX3_advance_132 : decode cX3_advance 132 = .ok (.putfield 22, 3) := by decide +kernel
theorem dX3_advance_135 : decode cX3_advance 135 = .ok (.goto (-52), 3) := by decide +kernel
theorem dX3_advance_138 : decode cX3_advance 138 = .ok (.return_, 1) := by decide +kernel
theorem dX3_refuse_0 : decode cX3_refuse 0 = .ok (.aload_n 0, 1) := by decide +kernel
theorem dX3_refuse_1 : decode cX3_refuse 1 = .ok (.getfield 18, 3) := by decide +kernel
theorem dX3_refuse_4 : decode cX3_refuse 4 = .ok (.iconst (-1), 1) := by decide +kernel
theorem dX3_refuse_5 : decode cX3_refuse 5 = .ok (.if_icmp .ne 11, 3) := by decide +kernel
theorem dX3_refuse_8 : decode cX3_refuse 8 = .ok (.aload_n 0, 1) := by decide +kernel
theorem dX3_refuse_9 : decode cX3_refuse 9 = .ok (.aload_n 0, 1) := by decide +kernel
theorem dX3_refuse_10 : decode cX3_refuse 10 = .ok (.getfield 71, 3) := by decide +kernel
theorem dX3_refuse_13 : decode cX3_refuse 13 = .ok (.putfield 18, 3) := by decide +kernel
theorem dX3_refuse_16 : decode cX3_refuse 16 = .ok (.return_, 1) := by decide +kernel
theorem dX3_tokenIs_0 : decode cX3_tokenIs 0 = .ok (.aload_n 0, 1) := by decide +kernel
theorem dX3_tokenIs_1 : decode cX3_tokenIs 1 = .ok (.getfield 22, 3) := by decide +kernel
theorem dX3_tokenIs_4 : decode cX3_tokenIs 4 = .ok (.aload_n 0, 1) := by decide +kernel
theorem dX3_tokenIs_5 : decode cX3_tokenIs 5 = .ok (.getfield 71, 3) := by decide +kernel
theorem dX3_tokenIs_8 : decode cX3_tokenIs 8 = .ok (.isub, 1) := by decide +kernel
theorem dX3_tokenIs_9 : decode cX3_tokenIs 9 = .ok (.aload_n 1, 1) := by decide +kernel
theorem dX3_tokenIs_10 : decode cX3_tokenIs 10 = .ok (.invokevirtual 91, 3) := by decide +kernel
theorem dX3_tokenIs_13 : decode cX3_tokenIs 13 = .ok (.if_icmp .eq 5, 3) := by decide +kernel
theorem dX3_tokenIs_16 : decode cX3_tokenIs 16 = .ok (.iconst 0, 1) := by decide +kernel
theorem dX3_tokenIs_17 : decode cX3_tokenIs 17 = .ok (.ireturn, 1) := by decide +kernel
theorem dX3_tokenIs_18 : decode cX3_tokenIs 18 = .ok (.iconst 0, 1) := by decide +kernel
theorem dX3_tokenIs_19 : decode cX3_tokenIs 19 = .ok (.istore_n 2, 1) := by decide +kernel
theorem dX3_tokenIs_20 : decode cX3_tokenIs 20 = .ok (.iload_n 2, 1) := by decide +kernel
theorem dX3_tokenIs_21 : decode cX3_tokenIs 21 = .ok (.aload_n 1, 1) := by decide +kernel
theorem dX3_tokenIs_22 : decode cX3_tokenIs 22 = .ok (.invokevirtual 91, 3) := by decide +kernel
theorem dX3_tokenIs_25 : decode cX3_tokenIs 25 = .ok (.if_icmp .ge 32, 3) := by decide +kernel
theorem dX3_tokenIs_28 : decode cX3_tokenIs 28 = .ok (.aload_n 0, 1) := by decide +kernel
theorem dX3_tokenIs_29 : decode cX3_tokenIs 29 = .ok (.getfield 12, 3) := by decide +kernel
theorem dX3_tokenIs_32 : decode cX3_tokenIs 32 = .ok (.aload_n 0, 1) := by decide +kernel
theorem dX3_tokenIs_33 : decode cX3_tokenIs 33 = .ok (.getfield 71, 3) := by decide +kernel
theorem dX3_tokenIs_36 : decode cX3_tokenIs 36 = .ok (.iload_n 2, 1) := by decide +kernel
theorem dX3_tokenIs_37 : decode cX3_tokenIs 37 = .ok (.iadd, 1) := by decide +kernel
theorem dX3_tokenIs_38 : decode cX3_tokenIs 38 = .ok (.invokevirtual 74, 3) := by decide +kernel
theorem dX3_tokenIs_41 : decode cX3_tokenIs 41 = .ok (.aload_n 1, 1) := by decide +kernel
theorem dX3_tokenIs_42 : decode cX3_tokenIs 42 = .ok (.iload_n 2, 1) := by decide +kernel
theorem dX3_tokenIs_43 : decode cX3_tokenIs 43 = .ok (.invokevirtual 95, 3) := by decide +kernel
theorem dX3_tokenIs_46 : decode cX3_tokenIs 46 = .ok (.if_icmp .eq 5, 3) := by decide +kernel
theorem dX3_tokenIs_49 : decode cX3_tokenIs 49 = .ok (.iconst 0, 1) := by decide +kernel
theorem dX3_tokenIs_50 : decode cX3_tokenIs 50 = .ok (.ireturn, 1) := by decide +kernel
theorem dX3_tokenIs_51 : decode cX3_tokenIs 51 = .ok (.iinc 2 1, 3) := by decide +kernel
theorem dX3_tokenIs_54 : decode cX3_tokenIs 54 = .ok (.goto (-34), 3) := by decide +kernel
theorem dX3_tokenIs_57 : decode cX3_tokenIs 57 = .ok (.iconst 1, 1) := by decide +kernel
theorem dX3_tokenIs_58 : decode cX3_tokenIs 58 = .ok (.ireturn, 1) := by decide +kernel
theorem dX3_word_0 : decode cX3_word 0 = .ok (.iload_n 0, 1) := by decide +kernel
theorem dX3_word_1 : decode cX3_word 1 = .ok (.tableswitch 43 0 3 #[31, 34, 37, 40], 31) := by decide +kernel
theorem dX3_word_32 : decode cX3_word 32 = .ok (.ldc 99, 2) := by decide +kernel
theorem dX3_word_34 : decode cX3_word 34 = .ok (.areturn, 1) := by decide +kernel
theorem dX3_word_35 : decode cX3_word 35 = .ok (.ldc 101, 2) := by decide +kernel
theorem dX3_word_37 : decode cX3_word 37 = .ok (.areturn, 1) := by decide +kernel
theorem dX3_word_38 : decode cX3_word 38 = .ok (.ldc 103, 2) := by decide +kernel
theorem dX3_word_40 : decode cX3_word 40 = .ok (.areturn, 1) := by decide +kernel
theorem dX3_word_41 : decode cX3_word 41 = .ok (.ldc 105, 2) := by decide +kernel
theorem dX3_word_43 : decode cX3_word 43 = .ok (.areturn, 1) := by decide +kernel
theorem dX3_word_44 : decode cX3_word 44 = .ok (.ldc 107, 2) := by decide +kernel
theorem dX3_word_46 : decode cX3_word 46 = .ok (.areturn, 1) := by decide +kernel
theorem dX3_isSameRun_0 : decode cX3_isSameRun 0 = .ok (.iload_n 0, 1) := by decide +kernel
theorem dX3_isSameRun_1 : decode cX3_isSameRun 1 = .ok (.invokestatic 109, 3) := by decide +kernel
theorem dX3_isSameRun_4 : decode cX3_isSameRun 4 = .ok (.ifCond .eq 10, 3) := by decide +kernel
theorem dX3_isSameRun_7 : decode cX3_isSameRun 7 = .ok (.iload_n 1, 1) := by decide +kernel
theorem dX3_isSameRun_8 : decode cX3_isSameRun 8 = .ok (.invokestatic 109, 3) := by decide +kernel
theorem dX3_isSameRun_11 : decode cX3_isSameRun 11 = .ok (.ifCond .ne 17, 3) := by decide +kernel
theorem dX3_isSameRun_14 : decode cX3_isSameRun 14 = .ok (.iload_n 0, 1) := by decide +kernel
theorem dX3_isSameRun_15 : decode cX3_isSameRun 15 = .ok (.invokestatic 78, 3) := by decide +kernel
theorem dX3_isSameRun_18 : decode cX3_isSameRun 18 = .ok (.ifCond .eq 14, 3) := by decide +kernel
theorem dX3_isSameRun_21 : decode cX3_isSameRun 21 = .ok (.iload_n 1, 1) := by decide +kernel
theorem dX3_isSameRun_22 : decode cX3_isSameRun 22 = .ok (.invokestatic 78, 3) := by decide +kernel
theorem dX3_isSameRun_25 : decode cX3_isSameRun 25 = .ok (.ifCond .eq 7, 3) := by decide +kernel
theorem dX3_isSameRun_28 : decode cX3_isSameRun 28 = .ok (.iconst 1, 1) := by decide +kernel
theorem dX3_isSameRun_29 : decode cX3_isSameRun 29 = .ok (.goto 4, 3) := by decide +kernel
theorem dX3_isSameRun_32 : decode cX3_isSameRun 32 = .ok (.iconst 0, 1) := by decide +kernel
theorem dX3_isSameRun_33 : decode cX3_isSameRun 33 = .ok (.ireturn, 1) := by decide +kernel
theorem dX3_isLetter_0 : decode cX3_isLetter 0 = .ok (.iload_n 0, 1) := by decide +kernel
theorem dX3_isLetter_1 : decode cX3_isLetter 1 = .ok (.bipush 97, 2) := by decide +kernel
theorem dX3_isLetter_3 : decode cX3_isLetter 3 = .ok (.if_icmp .lt 13, 3) := by decide +kernel
theorem dX3_isLetter_6 : decode cX3_isLetter 6 = .ok (.iload_n 0, 1) := by decide +kernel
theorem dX3_isLetter_7 : decode cX3_isLetter 7 = .ok (.bipush 122, 2) := by decide +kernel
theorem dX3_isLetter_9 : decode cX3_isLetter 9 = .ok (.if_icmp .gt 7, 3) := by decide +kernel
theorem dX3_isLetter_12 : decode cX3_isLetter 12 = .ok (.iconst 1, 1) := by decide +kernel
theorem dX3_isLetter_13 : decode cX3_isLetter 13 = .ok (.goto 4, 3) := by decide +kernel
theorem dX3_isLetter_16 : decode cX3_isLetter 16 = .ok (.iconst 0, 1) := by decide +kernel
theorem dX3_isLetter_17 : decode cX3_isLetter 17 = .ok (.ireturn, 1) := by decide +kernel
theorem dX3_isDigit_0 : decode cX3_isDigit 0 = .ok (.iload_n 0, 1) := by decide +kernel
theorem dX3_isDigit_1 : decode cX3_isDigit 1 = .ok (.bipush 48, 2) := by decide +kernel
theorem dX3_isDigit_3 : decode cX3_isDigit 3 = .ok (.if_icmp .lt 13, 3) := by decide +kernel
theorem dX3_isDigit_6 : decode cX3_isDigit 6 = .ok (.iload_n 0, 1) := by decide +kernel
theorem dX3_isDigit_7 : decode cX3_isDigit 7 = .ok (.bipush 57, 2) := by decide +kernel
theorem dX3_isDigit_9 : decode cX3_isDigit 9 = .ok (.if_icmp .gt 7, 3) := by decide +kernel
theorem dX3_isDigit_12 : decode cX3_isDigit 12 = .ok (.iconst 1, 1) := by decide +kernel
theorem dX3_isDigit_13 : decode cX3_isDigit 13 = .ok (.goto 4, 3) := by decide +kernel
theorem dX3_isDigit_16 : decode cX3_isDigit 16 = .ok (.iconst 0, 1) := by decide +kernel
theorem dX3_isDigit_17 : decode cX3_isDigit 17 = .ok (.ireturn, 1) := by decide +kernel
theorem dX4_init_0 : decode cX4_init 0 = .ok (.aload_n 0, 1) := by decide +kernel
theorem dX4_init_1 : decode cX4_init 1 = .ok (.invokespecial 3, 3) := by decide +kernel
theorem dX4_init_4 : decode cX4_init 4 = .ok (.aload_n 0, 1) := by decide +kernel
theorem dX4_init_5 : decode cX4_init 5 = .ok (.new 9, 3) := by decide +kernel
theorem dX4_init_8 : decode cX4_init 8 = .ok (.dup, 1) := by decide +kernel
theorem dX4_init_9 : decode cX4_init 9 = .ok (.invokespecial 11, 3) := by decide +kernel
theorem dX4_init_12 : decode cX4_init 12 = .ok (.putfield 12, 3) := by decide +kernel
theorem dX4_init_15 : decode cX4_init 15 = .ok (.aload_n 0, 1) := by decide +kernel
theorem dX4_init_16 : decode cX4_init 16 = .ok (.bipush 8, 2) := by decide +kernel
theorem dX4_init_18 : decode cX4_init 18 = .ok (.newarray .int, 2) := by decide +kernel
theorem dX4_init_20 : decode cX4_init 20 = .ok (.putfield 18, 3) := by decide +kernel
theorem dX4_init_23 : decode cX4_init 23 = .ok (.return_, 1) := by decide +kernel
theorem dX4_answerByTables_0 : decode cX4_answerByTables 0 = .ok (.aload_n 0, 1) := by decide +kernel
theorem dX4_answerByTables_1 : decode cX4_answerByTables 1 = .ok (.getfield 12, 3) := by decide +kernel
theorem dX4_answerByTables_4 : decode cX4_answerByTables 4 = .ok (.invokevirtual 22, 3) := by decide +kernel
theorem dX4_answerByTables_7 : decode cX4_answerByTables 7 = .ok (.iconst 0, 1) := by decide +kernel
theorem dX4_answerByTables_8 : decode cX4_answerByTables 8 = .ok (.istore 4, 2) := by decide +kernel
theorem dX4_answerByTables_10 : decode cX4_answerByTables 10 = .ok (.iload 4, 2) := by decide +kernel
theorem dX4_answerByTables_12 : decode cX4_answerByTables 12 = .ok (.iload_n 3, 1) := by decide +kernel
theorem dX4_answerByTables_13 : decode cX4_answerByTables 13 = .ok (.if_icmp .ge 34, 3) := by decide +kernel
theorem dX4_answerByTables_16 : decode cX4_answerByTables 16 = .ok (.aload_n 0, 1) := by decide +kernel
theorem dX4_answerByTables_17 : decode cX4_answerByTables 17 = .ok (.getfield 12, 3) := by decide +kernel
theorem dX4_answerByTables_20 : decode cX4_answerByTables 20 = .ok (.aload_n 1, 1) := by decide +kernel
theorem dX4_answerByTables_21 : decode cX4_answerByTables 21 = .ok (.getfield 25, 3) := by decide +kernel
theorem dX4_answerByTables_24 : decode cX4_answerByTables 24 = .ok (.iload 4, 2) := by decide +kernel
theorem dX4_answerByTables_26 : decode cX4_answerByTables 26 = .ok (.invokevirtual 31, 3) := by decide +kernel
theorem dX4_answerByTables_29 : decode cX4_answerByTables 29 = .ok (.aload_n 1, 1) := by decide +kernel
theorem dX4_answerByTables_30 : decode cX4_answerByTables 30 = .ok (.getfield 25, 3) := by decide +kernel
theorem dX4_answerByTables_33 : decode cX4_answerByTables 33 = .ok (.iload 4, 2) := by decide +kernel
theorem dX4_answerByTables_35 : decode cX4_answerByTables 35 = .ok (.invokevirtual 37, 3) := by decide +kernel
theorem dX4_answerByTables_38 : decode cX4_answerByTables 38 = .ok (.invokevirtual 40, 3) := by decide +kernel
theorem dX4_answerByTables_41 : decode cX4_answerByTables 41 = .ok (.iinc 4 1, 3) := by decide +kernel
theorem dX4_answerByTables_44 : decode cX4_answerByTables 44 = .ok (.goto (-34), 3) := by decide +kernel
theorem dX4_answerByTables_47 : decode cX4_answerByTables 47 = .ok (.aload_n 0, 1) := by decide +kernel
theorem dX4_answerByTables_48 : decode cX4_answerByTables 48 = .ok (.aload_n 1, 1) := by decide +kernel
theorem dX4_answerByTables_49 : decode cX4_answerByTables 49 = .ok (.invokevirtual 44, 3) := by decide +kernel
theorem dX4_answerByTables_52 : decode cX4_answerByTables 52 = .ok (.aload_n 0, 1) := by decide +kernel
theorem dX4_answerByTables_53 : decode cX4_answerByTables 53 = .ok (.iload_n 2, 1) := by decide +kernel
theorem dX4_answerByTables_54 : decode cX4_answerByTables 54 = .ok (.invokevirtual 48, 3) := by decide +kernel
theorem dX4_answerByTables_57 : decode cX4_answerByTables 57 = .ok (.ireturn, 1) := by decide +kernel
theorem dX4_answerByChanges_0 : decode cX4_answerByChanges 0 = .ok (.aload_n 0, 1) := by decide +kernel
theorem dX4_answerByChanges_1 : decode cX4_answerByChanges 1 = .ok (.aload_n 1, 1) := by decide +kernel
theorem dX4_answerByChanges_2 : decode cX4_answerByChanges 2 = .ok (.invokevirtual 51, 3) := by decide +kernel
theorem dX4_answerByChanges_5 : decode cX4_answerByChanges 5 = .ok (.iconst 0, 1) := by decide +kernel
theorem dX4_answerByChanges_6 : decode cX4_answerByChanges 6 = .ok (.istore 4, 2) := by decide +kernel
theorem dX4_answerByChanges_8 : decode cX4_answerByChanges 8 = .ok (.iload 4, 2) := by decide +kernel
theorem dX4_answerByChanges_10 : decode cX4_answerByChanges 10 = .ok (.iload_n 3, 1) := by decide +kernel
theorem dX4_answerByChanges_11 : decode cX4_answerByChanges 11 = .ok (.if_icmp .ge 16, 3) := by decide +kernel
theorem dX4_answerByChanges_14 : decode cX4_answerByChanges 14 = .ok (.aload_n 0, 1) := by decide +kernel
theorem dX4_answerByChanges_15 : decode cX4_answerByChanges 15 = .ok (.aload_n 1, 1) := by decide +kernel
theorem dX4_answerByChanges_16 : decode cX4_answerByChanges 16 = .ok (.iload 4, 2) := by decide +kernel
theorem dX4_answerByChanges_18 : decode cX4_answerByChanges 18 = .ok (.invokevirtual 54, 3) := by decide +kernel
theorem dX4_answerByChanges_21 : decode cX4_answerByChanges 21 = .ok (.iinc 4 1, 3) := by decide +kernel
theorem dX4_answerByChanges_24 : decode cX4_answerByChanges 24 = .ok (.goto (-16), 3) := by decide +kernel
theorem dX4_answerByChanges_27 : decode cX4_answerByChanges 27 = .ok (.aload_n 0, 1) := by decide +kernel
theorem dX4_answerByChanges_28 : decode cX4_answerByChanges 28 = .ok (.iload_n 2, 1) := by decide +kernel
theorem dX4_answerByChanges_29 : decode cX4_answerByChanges 29 = .ok (.invokevirtual 48, 3) := by decide +kernel
theorem dX4_answerByChanges_32 : decode cX4_answerByChanges 32 = .ok (.ireturn, 1) := by decide +kernel
theorem dX4_lastTurn_0 : decode cX4_lastTurn 0 = .ok (.aload_n 0, 1) := by decide +kernel
theorem dX4_lastTurn_1 : decode cX4_lastTurn 1 = .ok (.aload_n 1, 1) := by decide +kernel
theorem dX4_lastTurn_2 : decode cX4_lastTurn 2 = .ok (.invokevirtual 51, 3) := by decide +kernel
theorem dX4_lastTurn_5 : decode cX4_lastTurn 5 = .ok (.iconst 0, 1) := by decide +kernel
theorem dX4_lastTurn_6 : decode cX4_lastTurn 6 = .ok (.istore_n 3, 1) := by decide +kernel
theorem dX4_lastTurn_7 : decode cX4_lastTurn 7 = .ok (.iconst 0, 1) := by decide +kernel
theorem dX4_lastTurn_8 : decode cX4_lastTurn 8 = .ok (.istore 4, 2) := by decide +kernel
theorem dX4_lastTurn_10 : decode cX4_lastTurn 10 = .ok (.iload 4, 2) := by decide +kernel
theorem dX4_lastTurn_12 : decode cX4_lastTurn 12 = .ok (.aload_n 1, 1) := by decide +kernel
theorem dX4_lastTurn_13 : decode cX4_lastTurn 13 = .ok (.getfield 25, 3) := by decide +kernel
theorem dX4_lastTurn_16 : decode cX4_lastTurn 16 = .ok (.getfield 58, 3) := by decide +kernel
theorem dX4_lastTurn_19 : decode cX4_lastTurn 19 = .ok (.if_icmp .ge 38, 3) := by decide +kernel
theorem dX4_lastTurn_22 : decode cX4_lastTurn 22 = .ok (.aload_n 0, 1) := by decide +kernel
theorem dX4_lastTurn_23 : decode cX4_lastTurn 23 = .ok (.iload_n 2, 1) := by decide +kernel
theorem dX4_lastTurn_24 : decode cX4_lastTurn 24 = .ok (.invokevirtual 48, 3) := by decide +kernel
theorem dX4_lastTurn_27 : decode cX4_lastTurn 27 = .ok (.istore 5, 2) := by decide +kernel
theorem dX4_lastTurn_29 : decode cX4_lastTurn 29 = .ok (.aload_n 0, 1) := by decide +kernel
theorem dX4_lastTurn_30 : decode cX4_lastTurn 30 = .ok (.aload_n 1, 1) := by decide +kernel
theorem dX4_lastTurn_31 : decode cX4_lastTurn 31 = .ok (.iload 4, 2) := by decide +kernel
theorem dX4_lastTurn_33 : decode cX4_lastTurn 33 = .ok (.invokevirtual 54, 3) := by decide +kernel
theorem dX4_lastTurn_36 : decode cX4_lastTurn 36 = .ok (.aload_n 0, 1) := by decide +kernel
theorem dX4_lastTurn_37 : decode cX4_lastTurn 37 = .ok (.iload_n 2, 1) := by decide +kernel
theorem dX4_lastTurn_38 : decode cX4_lastTurn 38 = .ok (.invokevirtual 48, 3) := by decide +kernel
theorem dX4_lastTurn_41 : decode cX4_lastTurn 41 = .ok (.iload 5, 2) := by decide +kernel
theorem dX4_lastTurn_43 : decode cX4_lastTurn 43 = .ok (.if_icmp .eq 8, 3) := by decide +kernel
theorem dX4_lastTurn_46 : decode cX4_lastTurn 46 = .ok (.iload 4, 2) := by decide +kernel
theorem dX4_lastTurn_48 : decode cX4_lastTurn 48 = .ok (.iconst 1, 1) := by decide +kernel
theorem dX4_lastTurn_49 : decode cX4_lastTurn 49 = .ok (.iadd, 1) := by decide +kernel
theorem dX4_lastTurn_50 : decode cX4_lastTurn 50 = .ok (.istore_n 3, 1) := by decide +kernel
theorem dX4_lastTurn_51 : decode cX4_lastTurn 51 = .ok (.iinc 4 1, 3) := by decide +kernel
theorem dX4_lastTurn_54 : decode cX4_lastTurn 54 = .ok (.goto (-44), 3) := by decide +kernel
theorem dX4_lastTurn_57 : decode cX4_lastTurn 57 = .ok (.iload_n 3, 1) := by decide +kernel
theorem dX4_lastTurn_58 : decode cX4_lastTurn 58 = .ok (.ireturn, 1) := by decide +kernel
theorem dX4_begin_0 : decode cX4_begin 0 = .ok (.aload_n 0, 1) := by decide +kernel
theorem dX4_begin_1 : decode cX4_begin 1 = .ok (.getfield 12, 3) := by decide +kernel
theorem dX4_begin_4 : decode cX4_begin 4 = .ok (.invokevirtual 22, 3) := by decide +kernel
theorem dX4_begin_7 : decode cX4_begin 7 = .ok (.aload_n 0, 1) := by decide +kernel
theorem dX4_begin_8 : decode cX4_begin 8 = .ok (.aload_n 1, 1) := by decide +kernel
theorem dX4_begin_9 : decode cX4_begin 9 = .ok (.invokevirtual 44, 3) := by decide +kernel
theorem dX4_begin_12 : decode cX4_begin 12 = .ok (.return_, 1) := by decide +kernel
theorem dX4_askTables_0 : decode cX4_askTables 0 = .ok (.iconst 0, 1) := by decide +kernel
theorem dX4_askTables_1 : decode cX4_askTables 1 = .ok (.istore_n 2, 1) := by decide +kernel
theorem dX4_askTables_2 : decode cX4_askTables 2 = .ok (.iload_n 2, 1) := by decide +kernel
theorem dX4_askTables_3 : decode cX4_askTables 3 = .ok (.aload_n 0, 1) := by decide +kernel
theorem dX4_askTables_4 : decode cX4_askTables 4 = .ok (.getfield 18, 3) := by decide +kernel
theorem dX4_askTables_7 : decode cX4_askTables 7 = .ok (.arraylength, 1) := by decide +kernel
theorem dX4_askTables_8 : decode cX4_askTables 8 = .ok (.if_icmp .ge 49, 3) := by decide +kernel
theorem dX4_askTables_11 : decode cX4_askTables 11 = .ok (.aload_n 1, 1) := by decide +kernel
theorem dX4_askTables_12 : decode cX4_askTables 12 = .ok (.iload_n 2, 1) := by decide +kernel
theorem dX4_askTables_13 : decode cX4_askTables 13 = .ok (.invokevirtual 62, 3) := by decide +kernel
theorem dX4_askTables_16 : decode cX4_askTables 16 = .ok (.astore_n 3, 1) := by decide +kernel
theorem dX4_askTables_17 : decode cX4_askTables 17 = .ok (.aload_n 3, 1) := by decide +kernel
theorem dX4_askTables_18 : decode cX4_askTables 18 = .ok (.ifnull 33, 3) := by decide +kernel
theorem dX4_askTables_21 : decode cX4_askTables 21 = .ok (.aload_n 0, 1) := by decide +kernel
theorem dX4_askTables_22 : decode cX4_askTables 22 = .ok (.getfield 18, 3) := by decide +kernel
theorem dX4_askTables_25 : decode cX4_askTables 25 = .ok (.iload_n 2, 1) := by decide +kernel
theorem dX4_askTables_26 : decode cX4_askTables 26 = .ok (.aload_n 3, 1) := by decide +kernel
theorem dX4_askTables_27 : decode cX4_askTables 27 = .ok (.getfield 66, 3) := by decide +kernel
theorem dX4_askTables_30 : decode cX4_askTables 30 = .ok (.iconst 4, 1) := by decide +kernel
theorem dX4_askTables_31 : decode cX4_askTables 31 = .ok (.if_icmp .ne 11, 3) := by decide +kernel
theorem dX4_askTables_34 : decode cX4_askTables 34 = .ok (.aload_n 0, 1) := by decide +kernel
theorem dX4_askTables_35 : decode cX4_askTables 35 = .ok (.aload_n 3, 1) := by decide +kernel
theorem dX4_askTables_36 : decode cX4_askTables 36 = .ok (.invokevirtual 71, 3) := by decide +kernel
theorem dX4_askTables_39 : decode cX4_askTables 39 = .ok (.goto 11, 3) := by decide +kernel
theorem dX4_askTables_42 : decode cX4_askTables 42 = .ok (.aload_n 3, 1) := by decide +kernel
theorem dX4_askTables_43 : decode cX4_askTables 43 = .ok (.aload_n 0, 1) := by decide +kernel
theorem dX4_askTables_44 : decode cX4_askTables 44 = .ok (.getfield 12, 3) := by decide +kernel
theorem dX4_askTables_47 : decode cX4_askTables 47 = .ok (.invokevirtual 75, 3) := by decide +kernel
theorem dX4_askTables_50 : decode cX4_askTables 50 = .ok (.iastore, 1) := by decide +kernel
theorem dX4_askTables_51 : decode cX4_askTables 51 = .ok (.iinc 2 1, 3) := by decide +kernel
theorem dX4_askTables_54 : decode cX4_askTables 54 = .ok (.goto (-52), 3) := by decide +kernel
theorem dX4_askTables_57 : decode cX4_askTables 57 = .ok (.return_, 1) := by decide +kernel
theorem dX4_step_0 : decode cX4_step 0 = .ok (.aload_n 1, 1) := by decide +kernel
theorem dX4_step_1 : decode cX4_step 1 = .ok (.getfield 25, 3) := by decide +kernel
theorem dX4_step_4 : decode cX4_step 4 = .ok (.iload_n 2, 1) := by decide +kernel
theorem dX4_step_5 : decode cX4_step 5 = .ok (.invokevirtual 31, 3) := by decide +kernel
theorem dX4_step_8 : decode cX4_step 8 = .ok (.istore_n 3, 1) := by decide +kernel
theorem dX4_step_9 : decode cX4_step 9 = .ok (.aload_n 0, 1) := by decide +kernel
theorem dX4_step_10 : decode cX4_step 10 = .ok (.getfield 12, 3) := by decide +kernel
theorem dX4_step_13 : decode cX4_step 13 = .ok (.iload_n 3, 1) := by decide +kernel
theorem dX4_step_14 : decode cX4_step 14 = .ok (.invokevirtual 79, 3) := by decide +kernel
theorem dX4_step_17 : decode cX4_step 17 = .ok (.istore 4, 2) := by decide +kernel
theorem dX4_step_19 : decode cX4_step 19 = .ok (.aload_n 0, 1) := by decide +kernel
theorem dX4_step_20 : decode cX4_step 20 = .ok (.getfield 12, 3) := by decide +kernel
theorem dX4_step_23 : decode cX4_step 23 = .ok (.iload_n 3, 1) := by decide +kernel
theorem dX4_step_24 : decode cX4_step 24 = .ok (.aload_n 1, 1) := by decide +kernel
theorem dX4_step_25 : decode cX4_step 25 = .ok (.getfield 25, 3) := by decide +kernel
theorem dX4_step_28 : decode cX4_step 28 = .ok (.iload_n 2, 1) := by decide +kernel
theorem dX4_step_29 : decode cX4_step 29 = .ok (.invokevirtual 37, 3) := by decide +kernel
theorem dX4_step_32 : decode cX4_step 32 = .ok (.invokevirtual 40, 3) := by decide +kernel
theorem dX4_step_35 : decode cX4_step 35 = .ok (.iconst 0, 1) := by decide +kernel
theorem dX4_step_36 : decode cX4_step 36 = .ok (.istore 5, 2) := by decide +kernel
theorem dX4_step_38 : decode cX4_step 38 = .ok (.iload 5, 2) := by decide +kernel
theorem dX4_step_40 : decode cX4_step 40 = .ok (.aload_n 0, 1) := by decide +kernel
theorem dX4_step_41 : decode cX4_step 41 = .ok (.getfield 18, 3) := by decide +kernel
theorem dX4_step_44 : decode cX4_step 44 = .ok (.arraylength, 1) := by decide +kernel
theorem dX4_step_45 : decode cX4_step 45 = .ok (.if_icmp .ge 75, 3) := by decide +kernel
theorem dX4_step_48 : decode cX4_step 48 = .ok (.aload_n 1, 1) := by decide +kernel
theorem dX4_step_49 : decode cX4_step 49 = .ok (.iload 5, 2) := by decide +kernel
theorem dX4_step_51 : decode cX4_step 51 = .ok (.invokevirtual 62, 3) := by decide +kernel
theorem dX4_step_54 : decode cX4_step 54 = .ok (.astore 6, 2) := by decide +kernel
theorem dX4_step_56 : decode cX4_step 56 = .ok (.aload 6, 2) := by decide +kernel
theorem dX4_step_58 : decode cX4_step 58 = .ok (.ifnull 56, 3) := by decide +kernel
theorem dX4_step_61 : decode cX4_step 61 = .ok (.aload 6, 2) := by decide +kernel
theorem dX4_step_63 : decode cX4_step 63 = .ok (.iload_n 3, 1) := by decide +kernel
theorem dX4_step_64 : decode cX4_step 64 = .ok (.invokevirtual 82, 3) := by decide +kernel
theorem dX4_step_67 : decode cX4_step 67 = .ok (.ifCond .eq 47, 3) := by decide +kernel
theorem dX4_step_70 : decode cX4_step 70 = .ok (.aload_n 0, 1) := by decide +kernel
theorem dX4_step_71 : decode cX4_step 71 = .ok (.getfield 18, 3) := by decide +kernel
theorem dX4_step_74 : decode cX4_step 74 = .ok (.iload 5, 2) := by decide +kernel
theorem dX4_step_76 : decode cX4_step 76 = .ok (.aload 6, 2) := by decide +kernel
theorem dX4_step_78 : decode cX4_step 78 = .ok (.getfield 66, 3) := by decide +kernel
theorem dX4_step_81 : decode cX4_step 81 = .ok (.iconst 4, 1) := by decide +kernel
theorem dX4_step_82 : decode cX4_step 82 = .ok (.if_icmp .ne 12, 3) := by decide +kernel
theorem dX4_step_85 : decode cX4_step 85 = .ok (.aload_n 0, 1) := by decide +kernel
theorem dX4_step_86 : decode cX4_step 86 = .ok (.aload 6, 2) := by decide +kernel
theorem dX4_step_88 : decode cX4_step 88 = .ok (.invokevirtual 71, 3) := by decide +kernel
theorem dX4_step_91 : decode cX4_step 91 = .ok (.goto 22, 3) := by decide +kernel
theorem dX4_step_94 : decode cX4_step 94 = .ok (.aload 6, 2) := by decide +kernel
theorem dX4_step_96 : decode cX4_step 96 = .ok (.aload_n 0, 1) := by decide +kernel
theorem dX4_step_97 : decode cX4_step 97 = .ok (.getfield 18, 3) := by decide +kernel
theorem dX4_step_100 : decode cX4_step 100 = .ok (.iload 5, 2) := by decide +kernel
theorem dX4_step_102 : decode cX4_step 102 = .ok (.iaload, 1) := by decide +kernel
theorem dX4_step_103 : decode cX4_step 103 = .ok (.iload_n 3, 1) := by decide +kernel
theorem dX4_step_104 : decode cX4_step 104 = .ok (.iload 4, 2) := by decide +kernel
theorem dX4_step_106 : decode cX4_step 106 = .ok (.aload_n 0, 1) := by decide +kernel
theorem dX4_step_107 : decode cX4_step 107 = .ok (.getfield 12, 3) := by decide +kernel
theorem dX4_step_110 : decode cX4_step 110 = .ok (.invokevirtual 86, 3) := by decide +kernel
theorem dX4_step_113 : decode cX4_step 113 = .ok (.iastore, 1) := by decide +kernel
theorem dX4_step_114 : decode cX4_step 114 = .ok (.iinc 5 1, 3) := by decide +kernel
theorem dX4_step_117 : decode cX4_step 117 = .ok (.goto (-79), 3) := by decide +kernel
theorem dX4_step_120 : decode cX4_step 120 = .ok (.return_, 1) := by decide +kernel
theorem dX4_difference_0 : decode cX4_difference 0 = .ok (.aload_n 0, 1) := by decide +kernel
theorem dX4_difference_1 : decode cX4_difference 1 = .ok (.aload_n 1, 1) := by decide +kernel
theorem dX4_difference_2 : decode cX4_difference 2 = .ok (.getfield 90, 3) := by decide +kernel
theorem dX4_difference_5 : decode cX4_difference 5 = .ok (.invokevirtual 48, 3) := by decide +kernel
theorem dX4_difference_8 : decode cX4_difference 8 = .ok (.aload_n 0, 1) := by decide +kernel
theorem dX4_difference_9 : decode cX4_difference 9 = .ok (.aload_n 1, 1) := by decide +kernel
theorem dX4_difference_10 : decode cX4_difference 10 = .ok (.getfield 93, 3) := by decide +kernel
theorem dX4_difference_13 : decode cX4_difference 13 = .ok (.invokevirtual 48, 3) := by decide +kernel
theorem dX4_difference_16 : decode cX4_difference 16 = .ok (.isub, 1) := by decide +kernel
theorem dX4_difference_17 : decode cX4_difference 17 = .ok (.ireturn, 1) := by decide +kernel
theorem dX4_answer_0 : decode cX4_answer 0 = .ok (.iload_n 1, 1) := by decide +kernel
theorem dX4_answer_1 : decode cX4_answer 1 = .ok (.ifCond .lt 21, 3) := by decide +kernel
theorem dX4_answer_4 : decode cX4_answer 4 = .ok (.iload_n 1, 1) := by decide +kernel
theorem dX4_answer_5 : decode cX4_answer 5 = .ok (.aload_n 0, 1) := by decide +kernel
theorem dX4_answer_6 : decode cX4_answer 6 = .ok (.getfield 18, 3) := by decide +kernel
theorem dX4_answer_9 : decode cX4_answer 9 = .ok (.arraylength, 1) := by decide +kernel
theorem dX4_answer_10 : decode cX4_answer 10 = .ok (.if_icmp .ge 12, 3) := by decide +kernel
theorem dX4_answer_13 : decode cX4_answer 13 = .ok (.aload_n 0, 1) := by decide +kernel
theorem dX4_answer_14 : decode cX4_answer 14 = .ok (.getfield 18, 3) := by decide +kernel
theorem dX4_answer_17 : decode cX4_answer 17 = .ok (.iload_n 1, 1) := by decide +kernel
theorem dX4_answer_18 : decode cX4_answer 18 = .ok (.iaload, 1) := by decide +kernel
theorem dX4_answer_19 : decode cX4_answer 19 = .ok (.goto 4, 3) := by decide +kernel
theorem dX4_answer_22 : decode cX4_answer 22 = .ok (.iconst 0, 1) := by decide +kernel
theorem dX4_answer_23 : decode cX4_answer 23 = .ok (.ireturn, 1) := by decide +kernel
theorem dX5_init_0 : decode cX5_init 0 = .ok (.aload_n 0, 1) := by decide +kernel
theorem dX5_init_1 : decode cX5_init 1 = .ok (.invokespecial 3, 3) := by decide +kernel
theorem dX5_init_4 : decode cX5_init 4 = .ok (.aload_n 0, 1) := by decide +kernel
theorem dX5_init_5 : decode cX5_init 5 = .ok (.new 9, 3) := by decide +kernel
theorem dX5_init_8 : decode cX5_init 8 = .ok (.dup, 1) := by decide +kernel
theorem dX5_init_9 : decode cX5_init 9 = .ok (.invokespecial 11, 3) := by decide +kernel
theorem dX5_init_12 : decode cX5_init 12 = .ok (.putfield 12, 3) := by decide +kernel
theorem dX5_init_15 : decode cX5_init 15 = .ok (.aload_n 0, 1) := by decide +kernel
theorem dX5_init_16 : decode cX5_init 16 = .ok (.iconst 2, 1) := by decide +kernel
theorem dX5_init_17 : decode cX5_init 17 = .ok (.anewarray 9, 3) := by decide +kernel
theorem dX5_init_20 : decode cX5_init 20 = .ok (.putfield 18, 3) := by decide +kernel
theorem dX5_init_23 : decode cX5_init 23 = .ok (.aload_n 0, 1) := by decide +kernel
theorem dX5_init_24 : decode cX5_init 24 = .ok (.iconst 2, 1) := by decide +kernel
theorem dX5_init_25 : decode cX5_init 25 = .ok (.newarray .boolean, 2) := by decide +kernel
theorem dX5_init_27 : decode cX5_init 27 = .ok (.putfield 22, 3) := by decide +kernel
theorem dX5_init_30 : decode cX5_init 30 = .ok (.iconst 0, 1) := by decide +kernel
theorem dX5_init_31 : decode cX5_init 31 = .ok (.istore_n 1, 1) := by decide +kernel
theorem dX5_init_32 : decode cX5_init 32 = .ok (.iload_n 1, 1) := by decide +kernel
theorem dX5_init_33 : decode cX5_init 33 = .ok (.aload_n 0, 1) := by decide +kernel
theorem dX5_init_34 : decode cX5_init 34 = .ok (.getfield 18, 3) := by decide +kernel
theorem dX5_init_37 : decode cX5_init 37 = .ok (.arraylength, 1) := by decide +kernel
theorem dX5_init_38 : decode cX5_init 38 = .ok (.if_icmp .ge 22, 3) := by decide +kernel
theorem dX5_init_41 : decode cX5_init 41 = .ok (.aload_n 0, 1) := by decide +kernel
theorem dX5_init_42 : decode cX5_init 42 = .ok (.getfield 18, 3) := by decide +kernel
theorem dX5_init_45 : decode cX5_init 45 = .ok (.iload_n 1, 1) := by decide +kernel
theorem dX5_init_46 : decode cX5_init 46 = .ok (.new 9, 3) := by decide +kernel
theorem dX5_init_49 : decode cX5_init 49 = .ok (.dup, 1) := by decide +kernel
theorem dX5_init_50 : decode cX5_init 50 = .ok (.invokespecial 11, 3) := by decide +kernel
theorem dX5_init_53 : decode cX5_init 53 = .ok (.aastore, 1) := by decide +kernel
theorem dX5_init_54 : decode cX5_init 54 = .ok (.iinc 1 1, 3) := by decide +kernel
theorem dX5_init_57 : decode cX5_init 57 = .ok (.goto (-25), 3) := by decide +kernel
theorem dX5_init_60 : decode cX5_init 60 = .ok (.return_, 1) := by decide +kernel
theorem dX5_isTaken_0 : decode cX5_isTaken 0 = .ok (.iload_n 1, 1) := by decide +kernel
theorem dX5_isTaken_1 : decode cX5_isTaken 1 = .ok (.ifCond .lt 25, 3) := by decide +kernel
theorem dX5_isTaken_4 : decode cX5_isTaken 4 = .ok (.iload_n 1, 1) := by decide +kernel
theorem dX5_isTaken_5 : decode cX5_isTaken 5 = .ok (.aload_n 0, 1) := by decide +kernel
theorem dX5_isTaken_6 : decode cX5_isTaken 6 = .ok (.getfield 22, 3) := by decide +kernel
theorem dX5_isTaken_9 : decode cX5_isTaken 9 = .ok (.arraylength, 1) := by decide +kernel
theorem dX5_isTaken_10 : decode cX5_isTaken 10 = .ok (.if_icmp .ge 16, 3) := by decide +kernel
theorem dX5_isTaken_13 : decode cX5_isTaken 13 = .ok (.aload_n 0, 1) := by decide +kernel
theorem dX5_isTaken_14 : decode cX5_isTaken 14 = .ok (.getfield 22, 3) := by decide +kernel
theorem dX5_isTaken_17 : decode cX5_isTaken 17 = .ok (.iload_n 1, 1) := by decide +kernel
theorem dX5_isTaken_18 : decode cX5_isTaken 18 = .ok (.baload, 1) := by decide +kernel
theorem dX5_isTaken_19 : decode cX5_isTaken 19 = .ok (.ifCond .eq 7, 3) := by decide +kernel
theorem dX5_isTaken_22 : decode cX5_isTaken 22 = .ok (.iconst 1, 1) := by decide +kernel
theorem dX5_isTaken_23 : decode cX5_isTaken 23 = .ok (.goto 4, 3) := by decide +kernel
theorem dX5_isTaken_26 : decode cX5_isTaken 26 = .ok (.iconst 0, 1) := by decide +kernel
theorem dX5_isTaken_27 : decode cX5_isTaken 27 = .ok (.ireturn, 1) := by decide +kernel
theorem dX5_snapshots_0 : decode cX5_snapshots 0 = .ok (.iconst 0, 1) := by decide +kernel
theorem dX5_snapshots_1 : decode cX5_snapshots 1 = .ok (.istore_n 1, 1) := by decide +kernel
theorem dX5_snapshots_2 : decode cX5_snapshots 2 = .ok (.iconst 0, 1) := by decide +kernel
theorem dX5_snapshots_3 : decode cX5_snapshots 3 = .ok (.istore_n 2, 1) := by decide +kernel
theorem dX5_snapshots_4 : decode cX5_snapshots 4 = .ok (.iload_n 2, 1) := by decide +kernel
theorem dX5_snapshots_5 : decode cX5_snapshots 5 = .ok (.iconst 2, 1) := by decide +kernel
theorem dX5_snapshots_6 : decode cX5_snapshots 6 = .ok (.if_icmp .ge 20, 3) := by decide +kernel
theorem dX5_snapshots_9 : decode cX5_snapshots 9 = .ok (.aload_n 0, 1) := by decide +kernel
theorem dX5_snapshots_10 : decode cX5_snapshots 10 = .ok (.iload_n 2, 1) := by decide +kernel
theorem dX5_snapshots_11 : decode cX5_snapshots 11 = .ok (.invokevirtual 26, 3) := by decide +kernel
theorem dX5_snapshots_14 : decode cX5_snapshots 14 = .ok (.ifCond .eq 6, 3) := by decide +kernel
theorem dX5_snapshots_17 : decode cX5_snapshots 17 = .ok (.iinc 1 1, 3) := by decide +kernel
theorem dX5_snapshots_20 : decode cX5_snapshots 20 = .ok (.iinc 2 1, 3) := by decide +kernel
theorem dX5_snapshots_23 : decode cX5_snapshots 23 = .ok (.goto (-19), 3) := by decide +kernel
theorem dX5_snapshots_26 : decode cX5_snapshots 26 = .ok (.iload_n 1, 1) := by decide +kernel
theorem dX5_snapshots_27 : decode cX5_snapshots 27 = .ok (.ireturn, 1) := by decide +kernel
theorem dX5_keepIn_0 : decode cX5_keepIn 0 = .ok (.iload_n 1, 1) := by decide +kernel
theorem dX5_keepIn_1 : decode cX5_keepIn 1 = .ok (.ifCond .lt 47, 3) := by decide +kernel
theorem dX5_keepIn_4 : decode cX5_keepIn 4 = .ok (.iload_n 1, 1) := by decide +kernel
theorem dX5_keepIn_5 : decode cX5_keepIn 5 = .ok (.aload_n 0, 1) := by decide +kernel
theorem dX5_keepIn_6 : decode cX5_keepIn 6 = .ok (.getfield 18, 3) := by decide +kernel
theorem dX5_keepIn_9 : decode cX5_keepIn 9 = .ok (.arraylength, 1) := by decide +kernel
theorem dX5_keepIn_10 : decode cX5_keepIn 10 = .ok (.if_icmp .ge 38, 3) := by decide +kernel
theorem dX5_keepIn_13 : decode cX5_keepIn 13 = .ok (.iload_n 1, 1) := by decide +kernel
theorem dX5_keepIn_14 : decode cX5_keepIn 14 = .ok (.aload_n 0, 1) := by decide +kernel
theorem dX5_keepIn_15 : decode cX5_keepIn 15 = .ok (.getfield 22, 3) := by decide +kernel
theorem dX5_keepIn_18 : decode cX5_keepIn 18 = .ok (.arraylength, 1) := by decide +kernel
theorem dX5_keepIn_19 : decode cX5_keepIn 19 = .ok (.if_icmp .ge 29, 3) := by decide +kernel
theorem dX5_keepIn_22 : decode cX5_keepIn 22 = .ok (.aload_n 0, 1) := by decide +kernel
theorem dX5_keepIn_23 : decode cX5_keepIn 23 = .ok (.getfield 18, 3) := by decide +kernel
theorem dX5_keepIn_26 : decode cX5_keepIn 26 = .ok (.iload_n 1, 1) := by decide +kernel
theorem dX5_keepIn_27 : decode cX5_keepIn 27 = .ok (.aaload, 1) := by decide +kernel
theorem dX5_keepIn_28 : decode cX5_keepIn 28 = .ok (.ifnull 20, 3) := by decide +kernel
theorem dX5_keepIn_31 : decode cX5_keepIn 31 = .ok (.aload_n 0, 1) := by decide +kernel
theorem dX5_keepIn_32 : decode cX5_keepIn 32 = .ok (.getfield 18, 3) := by decide +kernel
theorem dX5_keepIn_35 : decode cX5_keepIn 35 = .ok (.iload_n 1, 1) := by decide +kernel
theorem dX5_keepIn_36 : decode cX5_keepIn 36 = .ok (.aaload, 1) := by decide +kernel
theorem dX5_keepIn_37 : decode cX5_keepIn 37 = .ok (.aload_n 2, 1) := by decide +kernel
theorem dX5_keepIn_38 : decode cX5_keepIn 38 = .ok (.invokevirtual 30, 3) := by decide +kernel
theorem dX5_keepIn_41 : decode cX5_keepIn 41 = .ok (.aload_n 0, 1) := by decide +kernel
theorem dX5_keepIn_42 : decode cX5_keepIn 42 = .ok (.getfield 22, 3) := by decide +kernel
theorem dX5_keepIn_45 : decode cX5_keepIn 45 = .ok (.iload_n 1, 1) := by decide +kernel
theorem dX5_keepIn_46 : decode cX5_keepIn 46 = .ok (.iconst 1, 1) := by decide +kernel
theorem dX5_keepIn_47 : decode cX5_keepIn 47 = .ok (.bastore, 1) := by decide +kernel
theorem dX5_keepIn_48 : decode cX5_keepIn 48 = .ok (.return_, 1) := by decide +kernel
theorem dX5_bringBack_0 : decode cX5_bringBack 0 = .ok (.aload_n 0, 1) := by decide +kernel
theorem dX5_bringBack_1 : decode cX5_bringBack 1 = .ok (.iload_n 1, 1) := by decide +kernel
theorem dX5_bringBack_2 : decode cX5_bringBack 2 = .ok (.invokevirtual 34, 3) := by decide +kernel
theorem dX5_bringBack_5 : decode cX5_bringBack 5 = .ok (.astore_n 2, 1) := by decide +kernel
theorem dX5_bringBack_6 : decode cX5_bringBack 6 = .ok (.aload_n 2, 1) := by decide +kernel
theorem dX5_bringBack_7 : decode cX5_bringBack 7 = .ok (.ifnull 11, 3) := by decide +kernel
theorem dX5_bringBack_10 : decode cX5_bringBack 10 = .ok (.aload_n 0, 1) := by decide +kernel
theorem dX5_bringBack_11 : decode cX5_bringBack 11 = .ok (.getfield 12, 3) := by decide +kernel
theorem dX5_bringBack_14 : decode cX5_bringBack 14 = .ok (.aload_n 2, 1) := by decide +kernel
theorem dX5_bringBack_15 : decode cX5_bringBack 15 = .ok (.invokevirtual 30, 3) := by decide +kernel
theorem dX5_bringBack_18 : decode cX5_bringBack 18 = .ok (.return_, 1) := by decide +kernel
theorem dX5_snapshot_0 : decode cX5_snapshot 0 = .ok (.aload_n 0, 1) := by decide +kernel
theorem dX5_snapshot_1 : decode cX5_snapshot 1 = .ok (.iload_n 1, 1) := by decide +kernel
theorem dX5_snapshot_2 : decode cX5_snapshot 2 = .ok (.invokevirtual 26, 3) := by decide +kernel
theorem dX5_snapshot_5 : decode cX5_snapshot 5 = .ok (.ifCond .eq 21, 3) := by decide +kernel
theorem dX5_snapshot_8 : decode cX5_snapshot 8 = .ok (.iload_n 1, 1) := by decide +kernel
theorem dX5_snapshot_9 : decode cX5_snapshot 9 = .ok (.aload_n 0, 1) := by decide +kernel
theorem dX5_snapshot_10 : decode cX5_snapshot 10 = .ok (.getfield 18, 3) := by decide +kernel
theorem dX5_snapshot_13 : decode cX5_snapshot 13 = .ok (.arraylength, 1) := by decide +kernel
theorem dX5_snapshot_14 : decode cX5_snapshot 14 = .ok (.if_icmp .ge 12, 3) := by decide +kernel
theorem dX5_snapshot_17 : decode cX5_snapshot 17 = .ok (.aload_n 0, 1) := by decide +kernel
theorem dX5_snapshot_18 : decode cX5_snapshot 18 = .ok (.getfield 18, 3) := by decide +kernel
theorem dX5_snapshot_21 : decode cX5_snapshot 21 = .ok (.iload_n 1, 1) := by decide +kernel
theorem dX5_snapshot_22 : decode cX5_snapshot 22 = .ok (.aaload, 1) := by decide +kernel
theorem dX5_snapshot_23 : decode cX5_snapshot 23 = .ok (.goto 4, 3) := by decide +kernel
theorem dX5_snapshot_26 : decode cX5_snapshot 26 = .ok (.aconst_null, 1) := by decide +kernel
theorem dX5_snapshot_27 : decode cX5_snapshot 27 = .ok (.areturn, 1) := by decide +kernel
theorem dX5_copyFrom_0 : decode cX5_copyFrom 0 = .ok (.aload_n 0, 1) := by decide +kernel
theorem dX5_copyFrom_1 : decode cX5_copyFrom 1 = .ok (.getfield 12, 3) := by decide +kernel
theorem dX5_copyFrom_4 : decode cX5_copyFrom 4 = .ok (.aload_n 1, 1) := by decide +kernel
theorem dX5_copyFrom_5 : decode cX5_copyFrom 5 = .ok (.getfield 12, 3) := by decide +kernel
theorem dX5_copyFrom_8 : decode cX5_copyFrom 8 = .ok (.invokevirtual 30, 3) := by decide +kernel
theorem dX5_copyFrom_11 : decode cX5_copyFrom 11 = .ok (.iconst 0, 1) := by decide +kernel
theorem dX5_copyFrom_12 : decode cX5_copyFrom 12 = .ok (.istore_n 2, 1) := by decide +kernel
theorem dX5_copyFrom_13 : decode cX5_copyFrom 13 = .ok (.iload_n 2, 1) := by decide +kernel
theorem dX5_copyFrom_14 : decode cX5_copyFrom 14 = .ok (.aload_n 0, 1) := by decide +kernel
theorem dX5_copyFrom_15 : decode cX5_copyFrom 15 = .ok (.getfield 22, 3) := by decide +kernel
theorem dX5_copyFrom_18 : decode cX5_copyFrom 18 = .ok (.arraylength, 1) := by decide +kernel
theorem dX5_copyFrom_19 : decode cX5_copyFrom 19 = .ok (.if_icmp .ge 32, 3) := by decide +kernel
theorem dX5_copyFrom_22 : decode cX5_copyFrom 22 = .ok (.aload_n 0, 1) := by decide +kernel
theorem dX5_copyFrom_23 : decode cX5_copyFrom 23 = .ok (.getfield 22, 3) := by decide +kernel
theorem dX5_copyFrom_26 : decode cX5_copyFrom 26 = .ok (.iload_n 2, 1) := by decide +kernel
theorem dX5_copyFrom_27 : decode cX5_copyFrom 27 = .ok (.iconst 0, 1) := by decide +kernel
theorem dX5_copyFrom_28 : decode cX5_copyFrom 28 = .ok (.bastore, 1) := by decide +kernel
theorem dX5_copyFrom_29 : decode cX5_copyFrom 29 = .ok (.aload_n 1, 1) := by decide +kernel
theorem dX5_copyFrom_30 : decode cX5_copyFrom 30 = .ok (.iload_n 2, 1) := by decide +kernel
theorem dX5_copyFrom_31 : decode cX5_copyFrom 31 = .ok (.invokevirtual 34, 3) := by decide +kernel
theorem dX5_copyFrom_34 : decode cX5_copyFrom 34 = .ok (.astore_n 3, 1) := by decide +kernel
theorem dX5_copyFrom_35 : decode cX5_copyFrom 35 = .ok (.aload_n 3, 1) := by decide +kernel
theorem dX5_copyFrom_36 : decode cX5_copyFrom 36 = .ok (.ifnull 9, 3) := by decide +kernel
theorem dX5_copyFrom_39 : decode cX5_copyFrom 39 = .ok (.aload_n 0, 1) := by decide +kernel
theorem dX5_copyFrom_40 : decode cX5_copyFrom 40 = .ok (.iload_n 2, 1) := by decide +kernel
theorem dX5_copyFrom_41 : decode cX5_copyFrom 41 = .ok (.aload_n 3, 1) := by decide +kernel
theorem dX5_copyFrom_42 : decode cX5_copyFrom 42 = .ok (.invokevirtual 38, 3) := by decide +kernel
theorem dX5_copyFrom_45 : decode cX5_copyFrom 45 = .ok (.iinc 2 1, 3) := by decide +kernel
theorem dX5_copyFrom_48 : decode cX5_copyFrom 48 = .ok (.goto (-35), 3) := by decide +kernel
theorem dX5_copyFrom_51 : decode cX5_copyFrom 51 = .ok (.return_, 1) := by decide +kernel
theorem dX6_init_0 : decode cX6_init 0 = .ok (.aload_n 0, 1) := by decide +kernel
theorem dX6_init_1 : decode cX6_init 1 = .ok (.invokespecial 3, 3) := by decide +kernel
theorem dX6_init_4 : decode cX6_init 4 = .ok (.aload_n 0, 1) := by decide +kernel
theorem dX6_init_5 : decode cX6_init 5 = .ok (.bipush 24, 2) := by decide +kernel
theorem dX6_init_7 : decode cX6_init 7 = .ok (.newarray .int, 2) := by decide +kernel
theorem dX6_init_9 : decode cX6_init 9 = .ok (.putfield 9, 3) := by decide +kernel
theorem dX6_init_12 : decode cX6_init 12 = .ok (.return_, 1) := by decide +kernel
theorem dX6_empty_0 : decode cX6_empty 0 = .ok (.iconst 0, 1) := by decide +kernel
theorem dX6_empty_1 : decode cX6_empty 1 = .ok (.istore_n 1, 1) := by decide +kernel
theorem dX6_empty_2 : decode cX6_empty 2 = .ok (.iload_n 1, 1) := by decide +kernel
theorem dX6_empty_3 : decode cX6_empty 3 = .ok (.aload_n 0, 1) := by decide +kernel
theorem dX6_empty_4 : decode cX6_empty 4 = .ok (.getfield 9, 3) := by decide +kernel
theorem dX6_empty_7 : decode cX6_empty 7 = .ok (.arraylength, 1) := by decide +kernel
theorem dX6_empty_8 : decode cX6_empty 8 = .ok (.if_icmp .ge 16, 3) := by decide +kernel
theorem dX6_empty_11 : decode cX6_empty 11 = .ok (.aload_n 0, 1) := by decide +kernel
theorem dX6_empty_12 : decode cX6_empty 12 = .ok (.getfield 9, 3) := by decide +kernel
theorem dX6_empty_15 : decode cX6_empty 15 = .ok (.iload_n 1, 1) := by decide +kernel
theorem dX6_empty_16 : decode cX6_empty 16 = .ok (.iconst (-1), 1) := by decide +kernel
theorem dX6_empty_17 : decode cX6_empty 17 = .ok (.iastore, 1) := by decide +kernel
theorem dX6_empty_18 : decode cX6_empty 18 = .ok (.iinc 1 1, 3) := by decide +kernel
theorem dX6_empty_21 : decode cX6_empty 21 = .ok (.goto (-19), 3) := by decide +kernel
theorem dX6_empty_24 : decode cX6_empty 24 = .ok (.return_, 1) := by decide +kernel
theorem dX6_assign_0 : decode cX6_assign 0 = .ok (.iload_n 1, 1) := by decide +kernel
theorem dX6_assign_1 : decode cX6_assign 1 = .ok (.ifCond .lt 19, 3) := by decide +kernel
theorem dX6_assign_4 : decode cX6_assign 4 = .ok (.iload_n 1, 1) := by decide +kernel
theorem dX6_assign_5 : decode cX6_assign 5 = .ok (.aload_n 0, 1) := by decide +kernel
theorem dX6_assign_6 : decode cX6_assign 6 = .ok (.getfield 9, 3) := by decide +kernel
theorem dX6_assign_9 : decode cX6_assign 9 = .ok (.arraylength, 1) := by decide +kernel
theorem dX6_assign_10 : decode cX6_assign 10 = .ok (.if_icmp .ge 10, 3) := by decide +kernel
theorem dX6_assign_13 : decode cX6_assign 13 = .ok (.aload_n 0, 1) := by decide +kernel
theorem dX6_assign_14 : decode cX6_assign 14 = .ok (.getfield 9, 3) := by decide +kernel
theorem dX6_assign_17 : decode cX6_assign 17 = .ok (.iload_n 1, 1) := by decide +kernel
theorem dX6_assign_18 : decode cX6_assign 18 = .ok (.iload_n 2, 1) := by decide +kernel
theorem dX6_assign_19 : decode cX6_assign 19 = .ok (.iastore, 1) := by decide +kernel
theorem dX6_assign_20 : decode cX6_assign 20 = .ok (.return_, 1) := by decide +kernel
theorem dX6_at_0 : decode cX6_at 0 = .ok (.iload_n 1, 1) := by decide +kernel
theorem dX6_at_1 : decode cX6_at 1 = .ok (.ifCond .lt 21, 3) := by decide +kernel
theorem dX6_at_4 : decode cX6_at 4 = .ok (.iload_n 1, 1) := by decide +kernel
theorem dX6_at_5 : decode cX6_at 5 = .ok (.aload_n 0, 1) := by decide +kernel
theorem dX6_at_6 : decode cX6_at 6 = .ok (.getfield 9, 3) := by decide +kernel
theorem dX6_at_9 : decode cX6_at 9 = .ok (.arraylength, 1) := by decide +kernel
theorem dX6_at_10 : decode cX6_at 10 = .ok (.if_icmp .ge 12, 3) := by decide +kernel
theorem dX6_at_13 : decode cX6_at 13 = .ok (.aload_n 0, 1) := by decide +kernel
theorem dX6_at_14 : decode cX6_at 14 = .ok (.getfield 9, 3) := by decide +kernel
theorem dX6_at_17 : decode cX6_at 17 = .ok (.iload_n 1, 1) := by decide +kernel
theorem dX6_at_18 : decode cX6_at 18 = .ok (.iaload, 1) := by decide +kernel
theorem dX6_at_19 : decode cX6_at 19 = .ok (.goto 4, 3) := by decide +kernel
theorem dX6_at_22 : decode cX6_at 22 = .ok (.iconst (-1), 1) := by decide +kernel
theorem dX6_at_23 : decode cX6_at 23 = .ok (.ireturn, 1) := by decide +kernel
theorem dX7_init_0 : decode cX7_init 0 = .ok (.aload_n 0, 1) := by decide +kernel
theorem dX7_init_1 : decode cX7_init 1 = .ok (.invokespecial 3, 3) := by decide +kernel
theorem dX7_init_4 : decode cX7_init 4 = .ok (.aload_n 0, 1) := by decide +kernel
theorem dX7_init_5 : decode cX7_init 5 = .ok (.bipush 40, 2) := by decide +kernel
theorem dX7_init_7 : decode cX7_init 7 = .ok (.newarray .int, 2) := by decide +kernel
theorem dX7_init_9 : decode cX7_init 9 = .ok (.putfield 9, 3) := by decide +kernel
theorem dX7_init_12 : decode cX7_init 12 = .ok (.return_, 1) := by decide +kernel
theorem dX7_isFull_0 : decode cX7_isFull 0 = .ok (.aload_n 0, 1) := by decide +kernel
theorem dX7_isFull_1 : decode cX7_isFull 1 = .ok (.getfield 15, 3) := by decide +kernel
theorem dX7_isFull_4 : decode cX7_isFull 4 = .ok (.bipush 40, 2) := by decide +kernel
theorem dX7_isFull_6 : decode cX7_isFull 6 = .ok (.if_icmp .lt 7, 3) := by decide +kernel
theorem dX7_isFull_9 : decode cX7_isFull 9 = .ok (.iconst 1, 1) := by decide +kernel
theorem dX7_isFull_10 : decode cX7_isFull 10 = .ok (.goto 4, 3) := by decide +kernel
theorem dX7_isFull_13 : decode cX7_isFull 13 = .ok (.iconst 0, 1) := by decide +kernel
theorem dX7_isFull_14 : decode cX7_isFull 14 = .ok (.ireturn, 1) := by decide +kernel
theorem dX7_add_0 : decode cX7_add 0 = .ok (.aload_n 0, 1) := by decide +kernel
theorem dX7_add_1 : decode cX7_add 1 = .ok (.getfield 15, 3) := by decide +kernel
theorem dX7_add_4 : decode cX7_add 4 = .ok (.ifCond .lt 35, 3) := by decide +kernel
theorem dX7_add_7 : decode cX7_add 7 = .ok (.aload_n 0, 1) := by decide +kernel
theorem dX7_add_8 : decode cX7_add 8 = .ok (.getfield 15, 3) := by decide +kernel
theorem dX7_add_11 : decode cX7_add 11 = .ok (.aload_n 0, 1) := by decide +kernel
theorem dX7_add_12 : decode cX7_add 12 = .ok (.getfield 9, 3) := by decide +kernel
theorem dX7_add_15 : decode cX7_add 15 = .ok (.arraylength, 1) := by decide +kernel
theorem dX7_add_16 : decode cX7_add 16 = .ok (.if_icmp .ge 23, 3) := by decide +kernel
theorem dX7_add_19 : decode cX7_add 19 = .ok (.aload_n 0, 1) := by decide +kernel
theorem dX7_add_20 : decode cX7_add 20 = .ok (.getfield 9, 3) := by decide +kernel
theorem dX7_add_23 : decode cX7_add 23 = .ok (.aload_n 0, 1) := by decide +kernel
theorem dX7_add_24 : decode cX7_add 24 = .ok (.getfield 15, 3) := by decide +kernel
theorem dX7_add_27 : decode cX7_add 27 = .ok (.iload_n 1, 1) := by decide +kernel
theorem dX7_add_28 : decode cX7_add 28 = .ok (.iastore, 1) := by decide +kernel
theorem dX7_add_29 : decode cX7_add 29 = .ok (.aload_n 0, 1) := by decide +kernel
theorem dX7_add_30 : decode cX7_add 30 = .ok (.dup, 1) := by decide +kernel
theorem dX7_add_31 : decode cX7_add 31 = .ok (.getfield 15, 3) := by decide +kernel
theorem dX7_add_34 : decode cX7_add 34 = .ok (.iconst 1, 1) := by decide +kernel
theorem dX7_add_35 : decode cX7_add 35 = .ok (.iadd, 1) := by decide +kernel
theorem dX7_add_36 : decode cX7_add 36 = .ok (.putfield 15, 3) := by decide +kernel
theorem dX7_add_39 : decode cX7_add 39 = .ok (.return_, 1) := by decide +kernel
theorem dX7_empty_0 : decode cX7_empty 0 = .ok (.aload_n 0, 1) := by decide +kernel
theorem dX7_empty_1 : decode cX7_empty 1 = .ok (.iconst 0, 1) := by decide +kernel
theorem dX7_empty_2 : decode cX7_empty 2 = .ok (.putfield 15, 3) := by decide +kernel
theorem dX7_empty_5 : decode cX7_empty 5 = .ok (.return_, 1) := by decide +kernel
theorem dX7_at_0 : decode cX7_at 0 = .ok (.iload_n 1, 1) := by decide +kernel
theorem dX7_at_1 : decode cX7_at 1 = .ok (.ifCond .lt 29, 3) := by decide +kernel
theorem dX7_at_4 : decode cX7_at 4 = .ok (.iload_n 1, 1) := by decide +kernel
theorem dX7_at_5 : decode cX7_at 5 = .ok (.aload_n 0, 1) := by decide +kernel
theorem dX7_at_6 : decode cX7_at 6 = .ok (.getfield 15, 3) := by decide +kernel
theorem dX7_at_9 : decode cX7_at 9 = .ok (.if_icmp .ge 21, 3) := by decide +kernel
theorem dX7_at_12 : decode cX7_at 12 = .ok (.iload_n 1, 1) := by decide +kernel
theorem dX7_at_13 : decode cX7_at 13 = .ok (.aload_n 0, 1) := by decide +kernel
theorem dX7_at_14 : decode cX7_at 14 = .ok (.getfield 9, 3) := by decide +kernel
theorem dX7_at_17 : decode cX7_at 17 = .ok (.arraylength, 1) := by decide +kernel
theorem dX7_at_18 : decode cX7_at 18 = .ok (.if_icmp .ge 12, 3) := by decide +kernel
theorem dX7_at_21 : decode cX7_at 21 = .ok (.aload_n 0, 1) := by decide +kernel
theorem dX7_at_22 : decode cX7_at 22 = .ok (.getfield 9, 3) := by decide +kernel
theorem dX7_at_25 : decode cX7_at 25 = .ok (.iload_n 1, 1) := by decide +kernel
theorem dX7_at_26 : decode cX7_at 26 = .ok (.iaload, 1) := by decide +kernel
theorem dX7_at_27 : decode cX7_at 27 = .ok (.goto 4, 3) := by decide +kernel
theorem dX7_at_30 : decode cX7_at 30 = .ok (.iconst 0, 1) := by decide +kernel
theorem dX7_at_31 : decode cX7_at 31 = .ok (.ireturn, 1) := by decide +kernel
theorem dX8_init_0 : decode cX8_init 0 = .ok (.aload_n 0, 1) := by decide +kernel
theorem dX8_init_1 : decode cX8_init 1 = .ok (.invokespecial 3, 3) := by decide +kernel
theorem dX8_init_4 : decode cX8_init 4 = .ok (.return_, 1) := by decide +kernel
theorem dX8_pose_0 : decode cX8_pose 0 = .ok (.aload_n 0, 1) := by decide +kernel
theorem dX8_pose_1 : decode cX8_pose 1 = .ok (.iload_n 1, 1) := by decide +kernel
theorem dX8_pose_2 : decode cX8_pose 2 = .ok (.putfield 9, 3) := by decide +kernel
theorem dX8_pose_5 : decode cX8_pose 5 = .ok (.aload_n 0, 1) := by decide +kernel
theorem dX8_pose_6 : decode cX8_pose 6 = .ok (.iload_n 2, 1) := by decide +kernel
theorem dX8_pose_7 : decode cX8_pose 7 = .ok (.putfield 15, 3) := by decide +kernel
theorem dX8_pose_10 : decode cX8_pose 10 = .ok (.aload_n 0, 1) := by decide +kernel
theorem dX8_pose_11 : decode cX8_pose 11 = .ok (.iload_n 3, 1) := by decide +kernel
theorem dX8_pose_12 : decode cX8_pose 12 = .ok (.putfield 18, 3) := by decide +kernel
theorem dX8_pose_15 : decode cX8_pose 15 = .ok (.aload_n 0, 1) := by decide +kernel
theorem dX8_pose_16 : decode cX8_pose 16 = .ok (.iload 4, 2) := by decide +kernel
theorem dX8_pose_18 : decode cX8_pose 18 = .ok (.putfield 21, 3) := by decide +kernel
theorem dX8_pose_21 : decode cX8_pose 21 = .ok (.return_, 1) := by decide +kernel
theorem dX8_concern_0 : decode cX8_concern 0 = .ok (.aload_n 0, 1) := by decide +kernel
theorem dX8_concern_1 : decode cX8_concern 1 = .ok (.iload_n 1, 1) := by decide +kernel
theorem dX8_concern_2 : decode cX8_concern 2 = .ok (.putfield 24, 3) := by decide +kernel
theorem dX8_concern_5 : decode cX8_concern 5 = .ok (.aload_n 0, 1) := by decide +kernel
theorem dX8_concern_6 : decode cX8_concern 6 = .ok (.iload_n 2, 1) := by decide +kernel
theorem dX8_concern_7 : decode cX8_concern 7 = .ok (.putfield 27, 3) := by decide +kernel
theorem dX8_concern_10 : decode cX8_concern 10 = .ok (.return_, 1) := by decide +kernel
theorem dX8_begin_0 : decode cX8_begin 0 = .ok (.aload_n 0, 1) := by decide +kernel
theorem dX8_begin_1 : decode cX8_begin 1 = .ok (.iconst 1, 1) := by decide +kernel
theorem dX8_begin_2 : decode cX8_begin 2 = .ok (.putfield 30, 3) := by decide +kernel
theorem dX8_begin_5 : decode cX8_begin 5 = .ok (.aload_n 0, 1) := by decide +kernel
theorem dX8_begin_6 : decode cX8_begin 6 = .ok (.iload_n 1, 1) := by decide +kernel
theorem dX8_begin_7 : decode cX8_begin 7 = .ok (.invokevirtual 34, 3) := by decide +kernel
theorem dX8_begin_10 : decode cX8_begin 10 = .ok (.return_, 1) := by decide +kernel
theorem dX8_standAnew_0 : decode cX8_standAnew 0 = .ok (.aload_n 0, 1) := by decide +kernel
theorem dX8_standAnew_1 : decode cX8_standAnew 1 = .ok (.iconst 0, 1) := by decide +kernel
theorem dX8_standAnew_2 : decode cX8_standAnew 2 = .ok (.putfield 38, 3) := by decide +kernel
theorem dX8_standAnew_5 : decode cX8_standAnew 5 = .ok (.aload_n 0, 1) := by decide +kernel
theorem dX8_standAnew_6 : decode cX8_standAnew 6 = .ok (.iload_n 1, 1) := by decide +kernel
theorem dX8_standAnew_7 : decode cX8_standAnew 7 = .ok (.putfield 41, 3) := by decide +kernel
theorem dX8_standAnew_10 : decode cX8_standAnew 10 = .ok (.aload_n 0, 1) := by decide +kernel
theorem dX8_standAnew_11 : decode cX8_standAnew 11 = .ok (.iconst 0, 1) := by decide +kernel
theorem dX8_standAnew_12 : decode cX8_standAnew 12 = .ok (.putfield 44, 3) := by decide +kernel
theorem dX8_standAnew_15 : decode cX8_standAnew 15 = .ok (.return_, 1) := by decide +kernel
theorem dX8_fail_0 : decode cX8_fail 0 = .ok (.aload_n 0, 1) := by decide +kernel
theorem dX8_fail_1 : decode cX8_fail 1 = .ok (.iconst 1, 1) := by decide +kernel
theorem dX8_fail_2 : decode cX8_fail 2 = .ok (.putfield 38, 3) := by decide +kernel
theorem dX8_fail_5 : decode cX8_fail 5 = .ok (.aload_n 0, 1) := by decide +kernel
theorem dX8_fail_6 : decode cX8_fail 6 = .ok (.iconst 0, 1) := by decide +kernel
theorem dX8_fail_7 : decode cX8_fail 7 = .ok (.putfield 44, 3) := by decide +kernel
theorem dX8_fail_10 : decode cX8_fail 10 = .ok (.return_, 1) := by decide +kernel
theorem dX8_hasTable_0 : decode cX8_hasTable 0 = .ok (.aload_n 0, 1) := by decide +kernel
theorem dX8_hasTable_1 : decode cX8_hasTable 1 = .ok (.getfield 9, 3) := by decide +kernel
theorem dX8_hasTable_4 : decode cX8_hasTable 4 = .ok (.ifCond .eq 19, 3) := by decide +kernel
theorem dX8_hasTable_7 : decode cX8_hasTable 7 = .ok (.aload_n 0, 1) := by decide +kernel
theorem dX8_hasTable_8 : decode cX8_hasTable 8 = .ok (.getfield 9, 3) := by decide +kernel
theorem dX8_hasTable_11 : decode cX8_hasTable 11 = .ok (.iconst 1, 1) := by decide +kernel
theorem dX8_hasTable_12 : decode cX8_hasTable 12 = .ok (.if_icmp .eq 11, 3) := by decide +kernel
theorem dX8_hasTable_15 : decode cX8_hasTable 15 = .ok (.aload_n 0, 1) := by decide +kernel
theorem dX8_hasTable_16 : decode cX8_hasTable 16 = .ok (.getfield 9, 3) := by decide +kernel
theorem dX8_hasTable_19 : decode cX8_hasTable 19 = .ok (.iconst 2, 1) := by decide +kernel
theorem dX8_hasTable_20 : decode cX8_hasTable 20 = .ok (.if_icmp .ne 7, 3) := by decide +kernel
theorem dX8_hasTable_23 : decode cX8_hasTable 23 = .ok (.iconst 1, 1) := by decide +kernel
theorem dX8_hasTable_24 : decode cX8_hasTable 24 = .ok (.goto 4, 3) := by decide +kernel
theorem dX8_hasTable_27 : decode cX8_hasTable 27 = .ok (.iconst 0, 1) := by decide +kernel
theorem dX8_hasTable_28 : decode cX8_hasTable 28 = .ok (.ireturn, 1) := by decide +kernel
theorem dX8_isMadeOf_0 : decode cX8_isMadeOf 0 = .ok (.aload_n 0, 1) := by decide +kernel
theorem dX8_isMadeOf_1 : decode cX8_isMadeOf 1 = .ok (.getfield 9, 3) := by decide +kernel
theorem dX8_isMadeOf_4 : decode cX8_isMadeOf 4 = .ok (.iconst 4, 1) := by decide +kernel
theorem dX8_isMadeOf_5 : decode cX8_isMadeOf 5 = .ok (.if_icmp .ne 23, 3) := by decide +kernel
theorem dX8_isMadeOf_8 : decode cX8_isMadeOf 8 = .ok (.aload_n 0, 1) := by decide +kernel
theorem dX8_isMadeOf_9 : decode cX8_isMadeOf 9 = .ok (.getfield 18, 3) := by decide +kernel
theorem dX8_isMadeOf_12 : decode cX8_isMadeOf 12 = .ok (.iload_n 1, 1) := by decide +kernel
theorem dX8_isMadeOf_13 : decode cX8_isMadeOf 13 = .ok (.if_icmp .eq 11, 3) := by decide +kernel
theorem dX8_isMadeOf_16 : decode cX8_isMadeOf 16 = .ok (.aload_n 0, 1) := by decide +kernel
theorem dX8_isMadeOf_17 : decode cX8_isMadeOf 17 = .ok (.getfield 21, 3) := by decide +kernel
theorem dX8_isMadeOf_20 : decode cX8_isMadeOf 20 = .ok (.iload_n 1, 1) := by decide +kernel
theorem dX8_isMadeOf_21 : decode cX8_isMadeOf 21 = .ok (.if_icmp .ne 7, 3) := by decide +kernel
theorem dX8_isMadeOf_24 : decode cX8_isMadeOf 24 = .ok (.iconst 1, 1) := by decide +kernel
theorem dX8_isMadeOf_25 : decode cX8_isMadeOf 25 = .ok (.goto 4, 3) := by decide +kernel
theorem dX8_isMadeOf_28 : decode cX8_isMadeOf 28 = .ok (.iconst 0, 1) := by decide +kernel
theorem dX8_isMadeOf_29 : decode cX8_isMadeOf 29 = .ok (.ireturn, 1) := by decide +kernel
theorem dX8_isConcernedBy_0 : decode cX8_isConcernedBy 0 = .ok (.iload_n 1, 1) := by decide +kernel
theorem dX8_isConcernedBy_1 : decode cX8_isConcernedBy 1 = .ok (.ifCond .lt 24, 3) := by decide +kernel
theorem dX8_isConcernedBy_4 : decode cX8_isConcernedBy 4 = .ok (.iload_n 1, 1) := by decide +kernel
theorem dX8_isConcernedBy_5 : decode cX8_isConcernedBy 5 = .ok (.bipush 24, 2) := by decide +kernel
theorem dX8_isConcernedBy_7 : decode cX8_isConcernedBy 7 = .ok (.if_icmp .ge 18, 3) := by decide +kernel
theorem dX8_isConcernedBy_10 : decode cX8_isConcernedBy 10 = .ok (.aload_n 0, 1) := by decide +kernel
theorem dX8_isConcernedBy_11 : decode cX8_isConcernedBy 11 = .ok (.getfield 24, 3) := by decide +kernel
theorem dX8_isConcernedBy_14 : decode cX8_isConcernedBy 14 = .ok (.iconst 1, 1) := by decide +kernel
theorem dX8_isConcernedBy_15 : decode cX8_isConcernedBy 15 = .ok (.iload_n 1, 1) := by decide +kernel
theorem dX8_isConcernedBy_16 : decode cX8_isConcernedBy 16 = .ok (.ishl, 1) := by decide +kernel
theorem dX8_isConcernedBy_17 : decode cX8_isConcernedBy 17 = .ok (.iand, 1) := by decide +kernel
theorem dX8_isConcernedBy_18 : decode cX8_isConcernedBy 18 = .ok (.ifCond .eq 7, 3) := by decide +kernel
theorem dX8_isConcernedBy_21 : decode cX8_isConcernedBy 21 = .ok (.iconst 1, 1) := by decide +kernel
theorem dX8_isConcernedBy_22 : decode cX8_isConcernedBy 22 = .ok (.goto 4, 3) := by decide +kernel
theorem dX8_isConcernedBy_25 : decode cX8_isConcernedBy 25 = .ok (.iconst 0, 1) := by decide +kernel
theorem dX8_isConcernedBy_26 : decode cX8_isConcernedBy 26 = .ok (.ireturn, 1) := by decide +kernel
theorem dX8_rangeCells_0 : decode cX8_rangeCells 0 = .ok (.iconst 1, 1) := by decide +kernel
theorem dX8_rangeCells_1 : decode cX8_rangeCells 1 = .ok (.aload_n 0, 1) := by decide +kernel
theorem dX8_rangeCells_2 : decode cX8_rangeCells 2 = .ok (.getfield 21, 3) := by decide +kernel
theorem dX8_rangeCells_5 : decode cX8_rangeCells 5 = .ok (.aload_n 0, 1) := by decide +kernel
theorem dX8_rangeCells_6 : decode cX8_rangeCells 6 = .ok (.getfield 18, 3) := by decide +kernel
theorem dX8_rangeCells_9 : decode cX8_rangeCells 9 = .ok (.isub, 1) := by decide +kernel
theorem dX8_rangeCells_10 : decode cX8_rangeCells 10 = .ok (.iconst 1, 1) := by decide +kernel
theorem dX8_rangeCells_11 : decode cX8_rangeCells 11 = .ok (.iadd, 1) := by decide +kernel
theorem dX8_rangeCells_12 : decode cX8_rangeCells 12 = .ok (.ishl, 1) := by decide +kernel
theorem dX8_rangeCells_13 : decode cX8_rangeCells 13 = .ok (.iconst 1, 1) := by decide +kernel
theorem dX8_rangeCells_14 : decode cX8_rangeCells 14 = .ok (.isub, 1) := by decide +kernel
theorem dX8_rangeCells_15 : decode cX8_rangeCells 15 = .ok (.aload_n 0, 1) := by decide +kernel
theorem dX8_rangeCells_16 : decode cX8_rangeCells 16 = .ok (.getfield 18, 3) := by decide +kernel
theorem dX8_rangeCells_19 : decode cX8_rangeCells 19 = .ok (.ishl, 1) := by decide +kernel
theorem dX8_rangeCells_20 : decode cX8_rangeCells 20 = .ok (.istore_n 1, 1) := by decide +kernel
theorem dX8_rangeCells_21 : decode cX8_rangeCells 21 = .ok (.aload_n 0, 1) := by decide +kernel
theorem dX8_rangeCells_22 : decode cX8_rangeCells 22 = .ok (.getfield 9, 3) := by decide +kernel
theorem dX8_rangeCells_25 : decode cX8_rangeCells 25 = .ok (.iconst 3, 1) := by decide +kernel
theorem dX8_rangeCells_26 : decode cX8_rangeCells 26 = .ok (.if_icmp .ne 19, 3) := by decide +kernel
theorem dX8_rangeCells_29 : decode cX8_rangeCells 29 = .ok (.iload_n 1, 1) := by decide +kernel
theorem dX8_rangeCells_30 : decode cX8_rangeCells 30 = .ok (.iconst 0, 1) := by decide +kernel
theorem dX8_rangeCells_31 : decode cX8_rangeCells 31 = .ok (.iconst 0, 1) := by decide +kernel
theorem dX8_rangeCells_32 : decode cX8_rangeCells 32 = .ok (.invokestatic 47, 3) := by decide +kernel
theorem dX8_rangeCells_35 : decode cX8_rangeCells 35 = .ok (.ishl, 1) := by decide +kernel
theorem dX8_rangeCells_36 : decode cX8_rangeCells 36 = .ok (.iload_n 1, 1) := by decide +kernel
theorem dX8_rangeCells_37 : decode cX8_rangeCells 37 = .ok (.iconst 1, 1) := by decide +kernel
theorem dX8_rangeCells_38 : decode cX8_rangeCells 38 = .ok (.iconst 0, 1) := by decide +kernel
theorem dX8_rangeCells_39 : decode cX8_rangeCells 39 = .ok (.invokestatic 47, 3) := by decide +kernel
theorem dX8_rangeCells_42 : decode cX8_rangeCells 42 = .ok (.ishl, 1) := by decide +kernel
theorem dX8_rangeCells_43 : decode cX8_rangeCells 43 = .ok (.ior, 1) := by decide +kernel
theorem dX8_rangeCells_44 : decode cX8_rangeCells 44 = .ok (.ireturn, 1) := by decide +kernel
theorem dX8_rangeCells_45 : decode cX8_rangeCells 45 = .ok (.iload_n 1, 1) := by decide +kernel
theorem dX8_rangeCells_46 : decode cX8_rangeCells 46 = .ok (.aload_n 0, 1) := by decide +kernel
theorem dX8_rangeCells_47 : decode cX8_rangeCells 47 = .ok (.getfield 15, 3) := by decide +kernel
theorem dX8_rangeCells_50 : decode cX8_rangeCells 50 = .ok (.iconst 0, 1) := by decide +kernel
theorem dX8_rangeCells_51 : decode cX8_rangeCells 51 = .ok (.invokestatic 47, 3) := by decide +kernel
theorem dX8_rangeCells_54 : decode cX8_rangeCells 54 = .ok (.ishl, 1) := by decide +kernel
theorem dX8_rangeCells_55 : decode cX8_rangeCells 55 = .ok (.ireturn, 1) := by decide +kernel
theorem dX8_rangeKeys_0 : decode cX8_rangeKeys 0 = .ok (.aload_n 0, 1) := by decide +kernel
theorem dX8_rangeKeys_1 : decode cX8_rangeKeys 1 = .ok (.getfield 21, 3) := by decide +kernel
theorem dX8_rangeKeys_4 : decode cX8_rangeKeys 4 = .ok (.aload_n 0, 1) := by decide +kernel
theorem dX8_rangeKeys_5 : decode cX8_rangeKeys 5 = .ok (.getfield 18, 3) := by decide +kernel
theorem dX8_rangeKeys_8 : decode cX8_rangeKeys 8 = .ok (.isub, 1) := by decide +kernel
theorem dX8_rangeKeys_9 : decode cX8_rangeKeys 9 = .ok (.iconst 1, 1) := by decide +kernel
theorem dX8_rangeKeys_10 : decode cX8_rangeKeys 10 = .ok (.iadd, 1) := by decide +kernel
theorem dX8_rangeKeys_11 : decode cX8_rangeKeys 11 = .ok (.ireturn, 1) := by decide +kernel
theorem dX8_rangeAnswer_0 : decode cX8_rangeAnswer 0 = .ok (.aload_n 0, 1) := by decide +kernel
theorem dX8_rangeAnswer_1 : decode cX8_rangeAnswer 1 = .ok (.getfield 9, 3) := by decide +kernel
theorem dX8_rangeAnswer_4 : decode cX8_rangeAnswer 4 = .ok (.iconst 2, 1) := by decide +kernel
theorem dX8_rangeAnswer_5 : decode cX8_rangeAnswer 5 = .ok (.if_icmp .ne 7, 3) := by decide +kernel
theorem dX8_rangeAnswer_8 : decode cX8_rangeAnswer 8 = .ok (.iconst (-1), 1) := by decide +kernel
theorem dX8_rangeAnswer_9 : decode cX8_rangeAnswer 9 = .ok (.goto 4, 3) := by decide +kernel
theorem dX8_rangeAnswer_12 : decode cX8_rangeAnswer 12 = .ok (.iconst 0, 1) := by decide +kernel
theorem dX8_rangeAnswer_13 : decode cX8_rangeAnswer 13 = .ok (.istore_n 2, 1) := by decide +kernel
theorem dX8_rangeAnswer_14 : decode cX8_rangeAnswer 14 = .ok (.aload_n 0, 1) := by decide +kernel
theorem dX8_rangeAnswer_15 : decode cX8_rangeAnswer 15 = .ok (.getfield 18, 3) := by decide +kernel
theorem dX8_rangeAnswer_18 : decode cX8_rangeAnswer 18 = .ok (.istore_n 3, 1) := by decide +kernel
theorem dX8_rangeAnswer_19 : decode cX8_rangeAnswer 19 = .ok (.iload_n 3, 1) := by decide +kernel
theorem dX8_rangeAnswer_20 : decode cX8_rangeAnswer 20 = .ok (.aload_n 0, 1) := by decide +kernel
theorem dX8_rangeAnswer_21 : decode cX8_rangeAnswer 21 = .ok (.getfield 21, 3) := by decide +kernel
theorem dX8_rangeAnswer_24 : decode cX8_rangeAnswer 24 = .ok (.if_icmp .gt 118, 3) := by decide +kernel
theorem dX8_rangeAnswer_27 : decode cX8_rangeAnswer 27 = .ok (.iload_n 3, 1) := by decide +kernel
theorem dX8_rangeAnswer_28 : decode cX8_rangeAnswer 28 = .ok (.bipush 12, 2) := by decide +kernel
theorem dX8_rangeAnswer_30 : decode cX8_rangeAnswer 30 = .ok (.if_icmp .ge 112, 3) := by decide +kernel
theorem dX8_rangeAnswer_33 : decode cX8_rangeAnswer 33 = .ok (.aload_n 1, 1) := by decide +kernel
theorem dX8_rangeAnswer_34 : decode cX8_rangeAnswer 34 = .ok (.aload_n 0, 1) := by decide +kernel
theorem dX8_rangeAnswer_35 : decode cX8_rangeAnswer 35 = .ok (.getfield 15, 3) := by decide +kernel
theorem dX8_rangeAnswer_38 : decode cX8_rangeAnswer 38 = .ok (.iload_n 3, 1) := by decide +kernel
theorem dX8_rangeAnswer_39 : decode cX8_rangeAnswer 39 = .ok (.invokestatic 47, 3) := by decide +kernel
theorem dX8_rangeAnswer_42 : decode cX8_rangeAnswer 42 = .ok (.invokevirtual 51, 3) := by decide +kernel
theorem dX8_rangeAnswer_45 : decode cX8_rangeAnswer 45 = .ok (.istore 4, 2) := by decide +kernel
theorem dX8_rangeAnswer_47 : decode cX8_rangeAnswer 47 = .ok (.aload_n 0, 1) := by decide +kernel
theorem dX8_rangeAnswer_48 : decode cX8_rangeAnswer 48 = .ok (.getfield 9, 3) := by decide +kernel
theorem dX8_rangeAnswer_51 : decode cX8_rangeAnswer 51 = .ok (.tableswitch 57 0 2 #[25, 36, 47], 25) := by decide +kernel
theorem dX8_rangeAnswer_76 : decode cX8_rangeAnswer 76 = .ok (.iload_n 2, 1) := by decide +kernel
theorem dX8_rangeAnswer_77 : decode cX8_rangeAnswer 77 = .ok (.iload 4, 2) := by decide +kernel
theorem dX8_rangeAnswer_79 : decode cX8_rangeAnswer 79 = .ok (.invokestatic 57, 3) := by decide +kernel
theorem dX8_rangeAnswer_82 : decode cX8_rangeAnswer 82 = .ok (.iadd, 1) := by decide +kernel
theorem dX8_rangeAnswer_83 : decode cX8_rangeAnswer 83 = .ok (.istore_n 2, 1) := by decide +kernel
theorem dX8_rangeAnswer_84 : decode cX8_rangeAnswer 84 = .ok (.goto 52, 3) := by decide +kernel
theorem dX8_rangeAnswer_87 : decode cX8_rangeAnswer 87 = .ok (.iload_n 2, 1) := by decide +kernel
theorem dX8_rangeAnswer_88 : decode cX8_rangeAnswer 88 = .ok (.iload 4, 2) := by decide +kernel
theorem dX8_rangeAnswer_90 : decode cX8_rangeAnswer 90 = .ok (.invokestatic 60, 3) := by decide +kernel
theorem dX8_rangeAnswer_93 : decode cX8_rangeAnswer 93 = .ok (.iadd, 1) := by decide +kernel
theorem dX8_rangeAnswer_94 : decode cX8_rangeAnswer 94 = .ok (.istore_n 2, 1) := by decide +kernel
theorem dX8_rangeAnswer_95 : decode cX8_rangeAnswer 95 = .ok (.goto 41, 3) := by decide +kernel
theorem dX8_rangeAnswer_98 : decode cX8_rangeAnswer 98 = .ok (.iload_n 2, 1) := by decide +kernel
theorem dX8_rangeAnswer_99 : decode cX8_rangeAnswer 99 = .ok (.iload 4, 2) := by decide +kernel
theorem dX8_rangeAnswer_101 : decode cX8_rangeAnswer 101 = .ok (.invokestatic 63, 3) := by decide +kernel
theorem dX8_rangeAnswer_104 : decode cX8_rangeAnswer 104 = .ok (.istore_n 2, 1) := by decide +kernel
theorem dX8_rangeAnswer_105 : decode cX8_rangeAnswer 105 = .ok (.goto 31, 3) := by decide +kernel
theorem dX8_rangeAnswer_108 : decode cX8_rangeAnswer 108 = .ok (.iload_n 2, 1) := by decide +kernel
theorem dX8_rangeAnswer_109 : decode cX8_rangeAnswer 109 = .ok (.aload_n 1, 1) := by decide +kernel
theorem dX8_rangeAnswer_110 : decode cX8_rangeAnswer 110 = .ok (.iconst 0, 1) := by decide +kernel
theorem dX8_rangeAnswer_111 : decode cX8_rangeAnswer 111 = .ok (.iload_n 3, 1) := by decide +kernel
theorem dX8_rangeAnswer_112 : decode cX8_rangeAnswer 112 = .ok (.invokestatic 47, 3) := by decide +kernel
theorem dX8_rangeAnswer_115 : decode cX8_rangeAnswer 115 = .ok (.invokevirtual 51, 3) := by decide +kernel
theorem dX8_rangeAnswer_118 : decode cX8_rangeAnswer 118 = .ok (.invokestatic 57, 3) := by decide +kernel
theorem dX8_rangeAnswer_121 : decode cX8_rangeAnswer 121 = .ok (.aload_n 1, 1) := by decide +kernel
theorem dX8_rangeAnswer_122 : decode cX8_rangeAnswer 122 = .ok (.iconst 1, 1) := by decide +kernel
theorem dX8_rangeAnswer_123 : decode cX8_rangeAnswer 123 = .ok (.iload_n 3, 1) := by decide +kernel
theorem dX8_rangeAnswer_124 : decode cX8_rangeAnswer 124 = .ok (.invokestatic 47, 3) := by decide +kernel
theorem dX8_rangeAnswer_127 : decode cX8_rangeAnswer 127 = .ok (.invokevirtual 51, 3) := by decide +kernel
theorem dX8_rangeAnswer_130 : decode cX8_rangeAnswer 130 = .ok (.invokestatic 57, 3) := by decide +kernel
theorem dX8_rangeAnswer_133 : decode cX8_rangeAnswer 133 = .ok (.imul, 1) := by decide +kernel
theorem dX8_rangeAnswer_134 : decode cX8_rangeAnswer 134 = .ok (.iadd, 1) := by decide +kernel
theorem dX8_rangeAnswer_135 : decode cX8_rangeAnswer 135 = .ok (.istore_n 2, 1) := by decide +kernel
theorem dX8_rangeAnswer_136 : decode cX8_rangeAnswer 136 = .ok (.iinc 3 1, 3) := by decide +kernel
theorem dX8_rangeAnswer_139 : decode cX8_rangeAnswer 139 = .ok (.goto (-120), 3) := by decide +kernel
theorem dX8_rangeAnswer_142 : decode cX8_rangeAnswer 142 = .ok (.iload_n 2, 1) := by decide +kernel
theorem dX8_rangeAnswer_143 : decode cX8_rangeAnswer 143 = .ok (.ireturn, 1) := by decide +kernel
theorem dX8_revisedAnswer_0 : decode cX8_revisedAnswer 0 = .ok (.aload 4, 2) := by decide +kernel
theorem dX8_revisedAnswer_2 : decode cX8_revisedAnswer 2 = .ok (.iload_n 2, 1) := by decide +kernel
theorem dX8_revisedAnswer_3 : decode cX8_revisedAnswer 3 = .ok (.invokevirtual 51, 3) := by decide +kernel
theorem dX8_revisedAnswer_6 : decode cX8_revisedAnswer 6 = .ok (.istore 5, 2) := by decide +kernel
theorem dX8_revisedAnswer_8 : decode cX8_revisedAnswer 8 = .ok (.iload 5, 2) := by decide +kernel
theorem dX8_revisedAnswer_10 : decode cX8_revisedAnswer 10 = .ok (.invokestatic 57, 3) := by decide +kernel
theorem dX8_revisedAnswer_13 : decode cX8_revisedAnswer 13 = .ok (.iload_n 3, 1) := by decide +kernel
theorem dX8_revisedAnswer_14 : decode cX8_revisedAnswer 14 = .ok (.invokestatic 57, 3) := by decide +kernel
theorem dX8_revisedAnswer_17 : decode cX8_revisedAnswer 17 = .ok (.isub, 1) := by decide +kernel
theorem dX8_revisedAnswer_18 : decode cX8_revisedAnswer 18 = .ok (.istore 6, 2) := by decide +kernel
theorem dX8_revisedAnswer_20 : decode cX8_revisedAnswer 20 = .ok (.aload_n 0, 1) := by decide +kernel
theorem dX8_revisedAnswer_21 : decode cX8_revisedAnswer 21 = .ok (.getfield 9, 3) := by decide +kernel
theorem dX8_revisedAnswer_24 : decode cX8_revisedAnswer 24 = .ok (.tableswitch 71 0 2 #[28, 33, 46], 28) := by decide +kernel
theorem dX8_revisedAnswer_52 : decode cX8_revisedAnswer 52 = .ok (.iload_n 1, 1) := by decide +kernel
theorem dX8_revisedAnswer_53 : decode cX8_revisedAnswer 53 = .ok (.iload 6, 2) := by decide +kernel
theorem dX8_revisedAnswer_55 : decode cX8_revisedAnswer 55 = .ok (.iadd, 1) := by decide +kernel
theorem dX8_revisedAnswer_56 : decode cX8_revisedAnswer 56 = .ok (.ireturn, 1) := by decide +kernel
theorem dX8_revisedAnswer_57 : decode cX8_revisedAnswer 57 = .ok (.iload_n 1, 1) := by decide +kernel
theorem dX8_revisedAnswer_58 : decode cX8_revisedAnswer 58 = .ok (.iload 5, 2) := by decide +kernel
theorem dX8_revisedAnswer_60 : decode cX8_revisedAnswer 60 = .ok (.invokestatic 60, 3) := by decide +kernel
theorem dX8_revisedAnswer_63 : decode cX8_revisedAnswer 63 = .ok (.iadd, 1) := by decide +kernel
theorem dX8_revisedAnswer_64 : decode cX8_revisedAnswer 64 = .ok (.iload_n 3, 1) := by decide +kernel
theorem dX8_revisedAnswer_65 : decode cX8_revisedAnswer 65 = .ok (.invokestatic 60, 3) := by decide +kernel
theorem dX8_revisedAnswer_68 : decode cX8_revisedAnswer 68 = .ok (.isub, 1) := by decide +kernel
theorem dX8_revisedAnswer_69 : decode cX8_revisedAnswer 69 = .ok (.ireturn, 1) := by decide +kernel
theorem dX8_revisedAnswer_70 : decode cX8_revisedAnswer 70 = .ok (.iload 5, 2) := by decide +kernel
theorem dX8_revisedAnswer_72 : decode cX8_revisedAnswer 72 = .ok (.iload_n 1, 1) := by decide +kernel
theorem dX8_revisedAnswer_73 : decode cX8_revisedAnswer 73 = .ok (.if_icmp .lt 6, 3) := by decide +kernel
theorem dX8_revisedAnswer_76 : decode cX8_revisedAnswer 76 = .ok (.iload 5, 2) := by decide +kernel
theorem dX8_revisedAnswer_78 : decode cX8_revisedAnswer 78 = .ok (.ireturn, 1) := by decide +kernel
theorem dX8_revisedAnswer_79 : decode cX8_revisedAnswer 79 = .ok (.iload_n 3, 1) := by decide +kernel
theorem dX8_revisedAnswer_80 : decode cX8_revisedAnswer 80 = .ok (.iload_n 1, 1) := by decide +kernel
theorem dX8_revisedAnswer_81 : decode cX8_revisedAnswer 81 = .ok (.if_icmp .ne 12, 3) := by decide +kernel
theorem dX8_revisedAnswer_84 : decode cX8_revisedAnswer 84 = .ok (.aload_n 0, 1) := by decide +kernel
theorem dX8_revisedAnswer_85 : decode cX8_revisedAnswer 85 = .ok (.aload 4, 2) := by decide +kernel
theorem dX8_revisedAnswer_87 : decode cX8_revisedAnswer 87 = .ok (.invokevirtual 68, 3) := by decide +kernel
theorem dX8_revisedAnswer_90 : decode cX8_revisedAnswer 90 = .ok (.goto 4, 3) := by decide +kernel
theorem dX8_revisedAnswer_93 : decode cX8_revisedAnswer 93 = .ok (.iload_n 1, 1) := by decide +kernel
theorem dX8_revisedAnswer_94 : decode cX8_revisedAnswer 94 = .ok (.ireturn, 1) := by decide +kernel
theorem dX8_revisedAnswer_95 : decode cX8_revisedAnswer 95 = .ok (.iload_n 2, 1) := by decide +kernel
theorem dX8_revisedAnswer_96 : decode cX8_revisedAnswer 96 = .ok (.bipush 12, 2) := by decide +kernel
theorem dX8_revisedAnswer_98 : decode cX8_revisedAnswer 98 = .ok (.if_icmp .ge 10, 3) := by decide +kernel
theorem dX8_revisedAnswer_101 : decode cX8_revisedAnswer 101 = .ok (.iload_n 2, 1) := by decide +kernel
theorem dX8_revisedAnswer_102 : decode cX8_revisedAnswer 102 = .ok (.bipush 12, 2) := by decide +kernel
theorem dX8_revisedAnswer_104 : decode cX8_revisedAnswer 104 = .ok (.iadd, 1) := by decide +kernel
theorem dX8_revisedAnswer_105 : decode cX8_revisedAnswer 105 = .ok (.goto 7, 3) := by decide +kernel
theorem dX8_revisedAnswer_108 : decode cX8_revisedAnswer 108 = .ok (.iload_n 2, 1) := by decide +kernel
theorem dX8_revisedAnswer_109 : decode cX8_revisedAnswer 109 = .ok (.bipush 12, 2) := by decide +kernel
theorem dX8_revisedAnswer_111 : decode cX8_revisedAnswer 111 = .ok (.isub, 1) := by decide +kernel
theorem dX8_revisedAnswer_112 : decode cX8_revisedAnswer 112 = .ok (.istore 7, 2) := by decide +kernel
theorem dX8_revisedAnswer_114 : decode cX8_revisedAnswer 114 = .ok (.iload_n 1, 1) := by decide +kernel
theorem dX8_revisedAnswer_115 : decode cX8_revisedAnswer 115 = .ok (.iload 6, 2) := by decide +kernel
theorem dX8_revisedAnswer_117 : decode cX8_revisedAnswer 117 = .ok (.aload 4, 2) := by decide +kernel
theorem dX8_revisedAnswer_119 : decode cX8_revisedAnswer 119 = .ok (.iload 7, 2) := by decide +kernel
theorem dX8_revisedAnswer_121 : decode cX8_revisedAnswer 121 = .ok (.invokevirtual 51, 3) := by decide +kernel
theorem dX8_revisedAnswer_124 : decode cX8_revisedAnswer 124 = .ok (.invokestatic 57, 3) := by decide +kernel
theorem dX8_revisedAnswer_127 : decode cX8_revisedAnswer 127 = .ok (.imul, 1) := by decide +kernel
theorem dX8_revisedAnswer_128 : decode cX8_revisedAnswer 128 = .ok (.iadd, 1) := by decide +kernel
theorem dX8_revisedAnswer_129 : decode cX8_revisedAnswer 129 = .ok (.ireturn, 1) := by decide +kernel
theorem dX8_copyFrom_0 : decode cX8_copyFrom 0 = .ok (.aload_n 0, 1) := by decide +kernel
theorem dX8_copyFrom_1 : decode cX8_copyFrom 1 = .ok (.aload_n 1, 1) := by decide +kernel
theorem dX8_copyFrom_2 : decode cX8_copyFrom 2 = .ok (.getfield 30, 3) := by decide +kernel
theorem dX8_copyFrom_5 : decode cX8_copyFrom 5 = .ok (.putfield 30, 3) := by decide +kernel
theorem dX8_copyFrom_8 : decode cX8_copyFrom 8 = .ok (.aload_n 0, 1) := by decide +kernel
theorem dX8_copyFrom_9 : decode cX8_copyFrom 9 = .ok (.aload_n 1, 1) := by decide +kernel
theorem dX8_copyFrom_10 : decode cX8_copyFrom 10 = .ok (.getfield 9, 3) := by decide +kernel
theorem dX8_copyFrom_13 : decode cX8_copyFrom 13 = .ok (.aload_n 1, 1) := by decide +kernel
theorem dX8_copyFrom_14 : decode cX8_copyFrom 14 = .ok (.getfield 15, 3) := by decide +kernel
theorem dX8_copyFrom_17 : decode cX8_copyFrom 17 = .ok (.aload_n 1, 1) := by decide +kernel
theorem dX8_copyFrom_18 : decode cX8_copyFrom 18 = .ok (.getfield 18, 3) := by decide +kernel
theorem dX8_copyFrom_21 : decode cX8_copyFrom 21 = .ok (.aload_n 1, 1) := by decide +kernel
theorem dX8_copyFrom_22 : decode cX8_copyFrom 22 = .ok (.getfield 21, 3) := by decide +kernel
theorem dX8_copyFrom_25 : decode cX8_copyFrom 25 = .ok (.invokevirtual 72, 3) := by decide +kernel
theorem dX8_copyFrom_28 : decode cX8_copyFrom 28 = .ok (.aload_n 0, 1) := by decide +kernel
theorem dX8_copyFrom_29 : decode cX8_copyFrom 29 = .ok (.aload_n 1, 1) := by decide +kernel
theorem dX8_copyFrom_30 : decode cX8_copyFrom 30 = .ok (.getfield 24, 3) := by decide +kernel
theorem dX8_copyFrom_33 : decode cX8_copyFrom 33 = .ok (.aload_n 1, 1) := by decide +kernel
theorem dX8_copyFrom_34 : decode cX8_copyFrom 34 = .ok (.getfield 27, 3) := by decide +kernel
theorem dX8_copyFrom_37 : decode cX8_copyFrom 37 = .ok (.invokevirtual 76, 3) := by decide +kernel
theorem dX8_copyFrom_40 : decode cX8_copyFrom 40 = .ok (.aload_n 0, 1) := by decide +kernel
theorem dX8_copyFrom_41 : decode cX8_copyFrom 41 = .ok (.aload_n 1, 1) := by decide +kernel
theorem dX8_copyFrom_42 : decode cX8_copyFrom 42 = .ok (.getfield 38, 3) := by decide +kernel
theorem dX8_copyFrom_45 : decode cX8_copyFrom 45 = .ok (.putfield 38, 3) := by decide +kernel
theorem dX8_copyFrom_48 : decode cX8_copyFrom 48 = .ok (.aload_n 0, 1) := by decide +kernel
theorem dX8_copyFrom_49 : decode cX8_copyFrom 49 = .ok (.aload_n 1, 1) := by decide +kernel
theorem dX8_copyFrom_50 : decode cX8_copyFrom 50 = .ok (.getfield 41, 3) := by decide +kernel
theorem dX8_copyFrom_53 : decode cX8_copyFrom 53 = .ok (.putfield 41, 3) := by decide +kernel
theorem dX8_copyFrom_56 : decode cX8_copyFrom 56 = .ok (.aload_n 0, 1) := by decide +kernel
theorem dX8_copyFrom_57 : decode cX8_copyFrom 57 = .ok (.aload_n 1, 1) := by decide +kernel
theorem dX8_copyFrom_58 : decode cX8_copyFrom 58 = .ok (.getfield 44, 3) := by decide +kernel
theorem dX8_copyFrom_61 : decode cX8_copyFrom 61 = .ok (.putfield 44, 3) := by decide +kernel
theorem dX8_copyFrom_64 : decode cX8_copyFrom 64 = .ok (.aload_n 0, 1) := by decide +kernel
theorem dX8_copyFrom_65 : decode cX8_copyFrom 65 = .ok (.aload_n 1, 1) := by decide +kernel
theorem dX8_copyFrom_66 : decode cX8_copyFrom 66 = .ok (.getfield 80, 3) := by decide +kernel
theorem dX8_copyFrom_69 : decode cX8_copyFrom 69 = .ok (.putfield 80, 3) := by decide +kernel
theorem dX8_copyFrom_72 : decode cX8_copyFrom 72 = .ok (.return_, 1) := by decide +kernel
theorem dX9_init_0 : decode cX9_init 0 = .ok (.aload_n 0, 1) := by decide +kernel
theorem dX9_init_1 : decode cX9_init 1 = .ok (.invokespecial 3, 3) := by decide +kernel
theorem dX9_init_4 : decode cX9_init 4 = .ok (.aload_n 0, 1) := by decide +kernel
theorem dX9_init_5 : decode cX9_init 5 = .ok (.new 9, 3) := by decide +kernel
theorem dX9_init_8 : decode cX9_init 8 = .ok (.dup, 1) := by decide +kernel
theorem dX9_init_9 : decode cX9_init 9 = .ok (.invokespecial 11, 3) := by decide +kernel
theorem dX9_init_12 : decode cX9_init 12 = .ok (.putfield 12, 3) := by decide +kernel
theorem dX9_init_15 : decode cX9_init 15 = .ok (.aload_n 0, 1) := by decide +kernel
theorem dX9_init_16 : decode cX9_init 16 = .ok (.new 16, 3) := by decide +kernel
theorem dX9_init_19 : decode cX9_init 19 = .ok (.dup, 1) := by decide +kernel
theorem dX9_init_20 : decode cX9_init 20 = .ok (.invokespecial 18, 3) := by decide +kernel
theorem dX9_init_23 : decode cX9_init 23 = .ok (.putfield 19, 3) := by decide +kernel
theorem dX9_init_26 : decode cX9_init 26 = .ok (.aload_n 0, 1) := by decide +kernel
theorem dX9_init_27 : decode cX9_init 27 = .ok (.new 23, 3) := by decide +kernel
theorem dX9_init_30 : decode cX9_init 30 = .ok (.dup, 1) := by decide +kernel
theorem dX9_init_31 : decode cX9_init 31 = .ok (.invokespecial 25, 3) := by decide +kernel
theorem dX9_init_34 : decode cX9_init 34 = .ok (.putfield 26, 3) := by decide +kernel
theorem dX9_init_37 : decode cX9_init 37 = .ok (.aload_n 0, 1) := by decide +kernel
theorem dX9_init_38 : decode cX9_init 38 = .ok (.new 30, 3) := by decide +kernel
theorem dX9_init_41 : decode cX9_init 41 = .ok (.dup, 1) := by decide +kernel
theorem dX9_init_42 : decode cX9_init 42 = .ok (.invokespecial 32, 3) := by decide +kernel
theorem dX9_init_45 : decode cX9_init 45 = .ok (.putfield 33, 3) := by decide +kernel
theorem dX9_init_48 : decode cX9_init 48 = .ok (.aload_n 0, 1) := by decide +kernel
theorem dX9_init_49 : decode cX9_init 49 = .ok (.new 37, 3) := by decide +kernel
theorem dX9_init_52 : decode cX9_init 52 = .ok (.dup, 1) := by decide +kernel
theorem dX9_init_53 : decode cX9_init 53 = .ok (.invokespecial 39, 3) := by decide +kernel
theorem dX9_init_56 : decode cX9_init 56 = .ok (.putfield 40, 3) := by decide +kernel
theorem dX9_init_59 : decode cX9_init 59 = .ok (.return_, 1) := by decide +kernel
theorem dX9_put_0 : decode cX9_put 0 = .ok (.iload_n 1, 1) := by decide +kernel
theorem dX9_put_1 : decode cX9_put 1 = .ok (.iload_n 2, 1) := by decide +kernel
theorem dX9_put_2 : decode cX9_put 2 = .ok (.invokestatic 44, 3) := by decide +kernel
theorem dX9_put_5 : decode cX9_put 5 = .ok (.ifCond .eq 14, 3) := by decide +kernel
theorem dX9_put_8 : decode cX9_put 8 = .ok (.iload_n 3, 1) := by decide +kernel
theorem dX9_put_9 : decode cX9_put 9 = .ok (.iconst (-1), 1) := by decide +kernel
theorem dX9_put_10 : decode cX9_put 10 = .ok (.if_icmp .lt 9, 3) := by decide +kernel
theorem dX9_put_13 : decode cX9_put 13 = .ok (.iload_n 3, 1) := by decide +kernel
theorem dX9_put_14 : decode cX9_put 14 = .ok (.bipush 99, 2) := by decide +kernel
theorem dX9_put_16 : decode cX9_put 16 = .ok (.if_icmp .le 6, 3) := by decide +kernel
theorem dX9_put_19 : decode cX9_put 19 = .ok (.ldc 48, 2) := by decide +kernel
theorem dX9_put_21 : decode cX9_put 21 = .ok (.ireturn, 1) := by decide +kernel
theorem dX9_put_22 : decode cX9_put 22 = .ok (.aload_n 0, 1) := by decide +kernel
theorem dX9_put_23 : decode cX9_put 23 = .ok (.getfield 19, 3) := by decide +kernel
theorem dX9_put_26 : decode cX9_put 26 = .ok (.getfield 49, 3) := by decide +kernel
theorem dX9_put_29 : decode cX9_put 29 = .ok (.getfield 52, 3) := by decide +kernel
theorem dX9_put_32 : decode cX9_put 32 = .ok (.astore 4, 2) := by decide +kernel
theorem dX9_put_34 : decode cX9_put 34 = .ok (.aload 4, 2) := by decide +kernel
theorem dX9_put_36 : decode cX9_put 36 = .ok (.invokevirtual 56, 3) := by decide +kernel
theorem dX9_put_39 : decode cX9_put 39 = .ok (.ifCond .eq 6, 3) := by decide +kernel
theorem dX9_put_42 : decode cX9_put 42 = .ok (.ldc 62, 2) := by decide +kernel
theorem dX9_put_44 : decode cX9_put 44 = .ok (.ireturn, 1) := by decide +kernel
theorem dX9_put_45 : decode cX9_put 45 = .ok (.aload_n 0, 1) := by decide +kernel
theorem dX9_put_46 : decode cX9_put 46 = .ok (.getfield 26, 3) := by decide +kernel
theorem dX9_put_49 : decode cX9_put 49 = .ok (.aload_n 0, 1) := by decide +kernel
theorem dX9_put_50 : decode cX9_put 50 = .ok (.getfield 19, 3) := by decide +kernel
theorem dX9_put_53 : decode cX9_put 53 = .ok (.invokevirtual 63, 3) := by decide +kernel
theorem dX9_put_56 : decode cX9_put 56 = .ok (.aload 4, 2) := by decide +kernel
theorem dX9_put_58 : decode cX9_put 58 = .ok (.iload_n 1, 1) := by decide +kernel
theorem dX9_put_59 : decode cX9_put 59 = .ok (.iload_n 2, 1) := by decide +kernel
theorem dX9_put_60 : decode cX9_put 60 = .ok (.invokestatic 67, 3) := by decide +kernel
theorem dX9_put_63 : decode cX9_put 63 = .ok (.iload_n 3, 1) := by decide +kernel
theorem dX9_put_64 : decode cX9_put 64 = .ok (.invokevirtual 71, 3) := by decide +kernel
theorem dX9_put_67 : decode cX9_put 67 = .ok (.ireturn, 1) := by decide +kernel
theorem dX9_define_0 : decode cX9_define 0 = .ok (.aload_n 0, 1) := by decide +kernel
theorem dX9_define_1 : decode cX9_define 1 = .ok (.getfield 12, 3) := by decide +kernel
theorem dX9_define_4 : decode cX9_define 4 = .ok (.invokevirtual 74, 3) := by decide +kernel
theorem dX9_define_7 : decode cX9_define 7 = .ok (.aload_n 0, 1) := by decide +kernel
theorem dX9_define_8 : decode cX9_define 8 = .ok (.getfield 12, 3) := by decide +kernel
theorem dX9_define_11 : decode cX9_define 11 = .ok (.invokevirtual 77, 3) := by decide +kernel
theorem dX9_define_14 : decode cX9_define 14 = .ok (.ifCond .eq 15, 3) := by decide +kernel
theorem dX9_define_17 : decode cX9_define 17 = .ok (.sipush (-1000), 3) := by decide +kernel
theorem dX9_define_20 : decode cX9_define 20 = .ok (.aload_n 0, 1) := by decide +kernel
theorem dX9_define_21 : decode cX9_define 21 = .ok (.getfield 12, 3) := by decide +kernel
theorem dX9_define_24 : decode cX9_define 24 = .ok (.getfield 80, 3) := by decide +kernel
theorem dX9_define_27 : decode cX9_define 27 = .ok (.isub, 1) := by decide +kernel
theorem dX9_define_28 : decode cX9_define 28 = .ok (.ireturn, 1) := by decide +kernel
theorem dX9_define_29 : decode cX9_define 29 = .ok (.aload_n 0, 1) := by decide +kernel
theorem dX9_define_30 : decode cX9_define 30 = .ok (.getfield 19, 3) := by decide +kernel
theorem dX9_define_33 : decode cX9_define 33 = .ok (.getfield 49, 3) := by decide +kernel
theorem dX9_define_36 : decode cX9_define 36 = .ok (.astore_n 1, 1) := by decide +kernel
theorem dX9_define_37 : decode cX9_define 37 = .ok (.aload_n 1, 1) := by decide +kernel
theorem dX9_define_38 : decode cX9_define 38 = .ok (.aload_n 0, 1) := by decide +kernel
theorem dX9_define_39 : decode cX9_define 39 = .ok (.getfield 12, 3) := by decide +kernel
theorem dX9_define_42 : decode cX9_define 42 = .ok (.getfield 84, 3) := by decide +kernel
theorem dX9_define_45 : decode cX9_define 45 = .ok (.aload_n 0, 1) := by decide +kernel
theorem dX9_define_46 : decode cX9_define 46 = .ok (.getfield 12, 3) := by decide +kernel
theorem dX9_define_49 : decode cX9_define 49 = .ok (.getfield 87, 3) := by decide +kernel
theorem dX9_define_52 : decode cX9_define 52 = .ok (.aload_n 0, 1) := by decide +kernel
theorem dX9_define_53 : decode cX9_define 53 = .ok (.getfield 12, 3) := by decide +kernel
theorem dX9_define_56 : decode cX9_define 56 = .ok (.getfield 90, 3) := by decide +kernel
theorem dX9_define_59 : decode cX9_define 59 = .ok (.invokevirtual 93, 3) := by decide +kernel
theorem dX9_define_62 : decode cX9_define 62 = .ok (.ifCond .ne 6, 3) := by decide +kernel
theorem dX9_define_65 : decode cX9_define 65 = .ok (.ldc 48, 2) := by decide +kernel
theorem dX9_define_67 : decode cX9_define 67 = .ok (.ireturn, 1) := by decide +kernel
theorem dX9_define_68 : decode cX9_define 68 = .ok (.aload_n 1, 1) := by decide +kernel
theorem dX9_define_69 : decode cX9_define 69 = .ok (.getfield 97, 3) := by decide +kernel
theorem dX9_define_72 : decode cX9_define 72 = .ok (.bipush 8, 2) := by decide +kernel
theorem dX9_define_74 : decode cX9_define 74 = .ok (.if_icmp .lt 6, 3) := by decide +kernel
theorem dX9_define_77 : decode cX9_define 77 = .ok (.ldc 62, 2) := by decide +kernel
theorem dX9_define_79 : decode cX9_define 79 = .ok (.ireturn, 1) := by decide +kernel
theorem dX9_define_80 : decode cX9_define 80 = .ok (.aload_n 0, 1) := by decide +kernel
theorem dX9_define_81 : decode cX9_define 81 = .ok (.getfield 26, 3) := by decide +kernel
theorem dX9_define_84 : decode cX9_define 84 = .ok (.aload_n 0, 1) := by decide +kernel
theorem dX9_define_85 : decode cX9_define 85 = .ok (.getfield 19, 3) := by decide +kernel
theorem dX9_define_88 : decode cX9_define 88 = .ok (.invokevirtual 63, 3) := by decide +kernel
theorem dX9_define_91 : decode cX9_define 91 = .ok (.aload_n 0, 1) := by decide +kernel
theorem dX9_define_92 : decode cX9_define 92 = .ok (.getfield 12, 3) := by decide +kernel
theorem dX9_define_95 : decode cX9_define 95 = .ok (.getfield 100, 3) := by decide +kernel
theorem dX9_define_98 : decode cX9_define 98 = .ok (.invokevirtual 104, 3) := by decide +kernel
theorem dX9_define_101 : decode cX9_define 101 = .ok (.aload_n 1, 1) := by decide +kernel
theorem dX9_define_102 : decode cX9_define 102 = .ok (.aload_n 0, 1) := by decide +kernel
theorem dX9_define_103 : decode cX9_define 103 = .ok (.getfield 12, 3) := by decide +kernel
theorem dX9_define_106 : decode cX9_define 106 = .ok (.getfield 84, 3) := by decide +kernel
theorem dX9_define_109 : decode cX9_define 109 = .ok (.aload_n 0, 1) := by decide +kernel
theorem dX9_define_110 : decode cX9_define 110 = .ok (.getfield 12, 3) := by decide +kernel
theorem dX9_define_113 : decode cX9_define 113 = .ok (.getfield 109, 3) := by decide +kernel
theorem dX9_define_116 : decode cX9_define 116 = .ok (.aload_n 0, 1) := by decide +kernel
theorem dX9_define_117 : decode cX9_define 117 = .ok (.getfield 12, 3) := by decide +kernel
theorem dX9_define_120 : decode cX9_define 120 = .ok (.getfield 87, 3) := by decide +kernel
theorem dX9_define_123 : decode cX9_define 123 = .ok (.aload_n 0, 1) := by decide +kernel
theorem dX9_define_124 : decode cX9_define 124 = .ok (.getfield 12, 3) := by decide +kernel
theorem dX9_define_127 : decode cX9_define 127 = .ok (.getfield 90, 3) := by decide +kernel
theorem dX9_define_130 : decode cX9_define 130 = .ok (.invokevirtual 112, 3) := by decide +kernel
theorem dX9_define_133 : decode cX9_define 133 = .ok (.ireturn, 1) := by decide +kernel
theorem dX9_drop_0 : decode cX9_drop 0 = .ok (.aload_n 0, 1) := by decide +kernel
theorem dX9_drop_1 : decode cX9_drop 1 = .ok (.getfield 19, 3) := by decide +kernel
theorem dX9_drop_4 : decode cX9_drop 4 = .ok (.getfield 49, 3) := by decide +kernel
theorem dX9_drop_7 : decode cX9_drop 7 = .ok (.astore_n 2, 1) := by decide +kernel
theorem dX9_drop_8 : decode cX9_drop 8 = .ok (.aload_n 2, 1) := by decide +kernel
theorem dX9_drop_9 : decode cX9_drop 9 = .ok (.iload_n 1, 1) := by decide +kernel
theorem dX9_drop_10 : decode cX9_drop 10 = .ok (.invokevirtual 116, 3) := by decide +kernel
theorem dX9_drop_13 : decode cX9_drop 13 = .ok (.astore_n 3, 1) := by decide +kernel
theorem dX9_drop_14 : decode cX9_drop 14 = .ok (.aload_n 3, 1) := by decide +kernel
theorem dX9_drop_15 : decode cX9_drop 15 = .ok (.ifnonnull 6, 3) := by decide +kernel
theorem dX9_drop_18 : decode cX9_drop 18 = .ok (.ldc 48, 2) := by decide +kernel
theorem dX9_drop_20 : decode cX9_drop 20 = .ok (.ireturn, 1) := by decide +kernel
theorem dX9_drop_21 : decode cX9_drop 21 = .ok (.aload_n 2, 1) := by decide +kernel
theorem dX9_drop_22 : decode cX9_drop 22 = .ok (.iload_n 1, 1) := by decide +kernel
theorem dX9_drop_23 : decode cX9_drop 23 = .ok (.invokevirtual 120, 3) := by decide +kernel
theorem dX9_drop_26 : decode cX9_drop 26 = .ok (.ifCond .eq 6, 3) := by decide +kernel
theorem dX9_drop_29 : decode cX9_drop 29 = .ok (.ldc 124, 2) := by decide +kernel
theorem dX9_drop_31 : decode cX9_drop 31 = .ok (.ireturn, 1) := by decide +kernel
theorem dX9_drop_32 : decode cX9_drop 32 = .ok (.aload_n 0, 1) := by decide +kernel
theorem dX9_drop_33 : decode cX9_drop 33 = .ok (.getfield 26, 3) := by decide +kernel
theorem dX9_drop_36 : decode cX9_drop 36 = .ok (.aload_n 0, 1) := by decide +kernel
theorem dX9_drop_37 : decode cX9_drop 37 = .ok (.getfield 19, 3) := by decide +kernel
theorem dX9_drop_40 : decode cX9_drop 40 = .ok (.invokevirtual 63, 3) := by decide +kernel
theorem dX9_drop_43 : decode cX9_drop 43 = .ok (.aload_n 3, 1) := by decide +kernel
theorem dX9_drop_44 : decode cX9_drop 44 = .ok (.iconst 0, 1) := by decide +kernel
theorem dX9_drop_45 : decode cX9_drop 45 = .ok (.putfield 125, 3) := by decide +kernel
theorem dX9_drop_48 : decode cX9_drop 48 = .ok (.aload_n 2, 1) := by decide +kernel
theorem dX9_drop_49 : decode cX9_drop 49 = .ok (.iconst 0, 1) := by decide +kernel
theorem dX9_drop_50 : decode cX9_drop 50 = .ok (.invokevirtual 131, 3) := by decide +kernel
theorem dX9_drop_53 : decode cX9_drop 53 = .ok (.invokestatic 135, 3) := by decide +kernel
theorem dX9_drop_56 : decode cX9_drop 56 = .ok (.ireturn, 1) := by decide +kernel
theorem dX9_set_0 : decode cX9_set 0 = .ok (.iload_n 1, 1) := by decide +kernel
theorem dX9_set_1 : decode cX9_set 1 = .ok (.iload_n 2, 1) := by decide +kernel
theorem dX9_set_2 : decode cX9_set 2 = .ok (.invokestatic 140, 3) := by decide +kernel
theorem dX9_set_5 : decode cX9_set 5 = .ok (.ifCond .ne 6, 3) := by decide +kernel
theorem dX9_set_8 : decode cX9_set 8 = .ok (.ldc 48, 2) := by decide +kernel
theorem dX9_set_10 : decode cX9_set 10 = .ok (.ireturn, 1) := by decide +kernel
theorem dX9_set_11 : decode cX9_set 11 = .ok (.aload_n 0, 1) := by decide +kernel
theorem dX9_set_12 : decode cX9_set 12 = .ok (.getfield 26, 3) := by decide +kernel
theorem dX9_set_15 : decode cX9_set 15 = .ok (.aload_n 0, 1) := by decide +kernel
theorem dX9_set_16 : decode cX9_set 16 = .ok (.getfield 19, 3) := by decide +kernel
theorem dX9_set_19 : decode cX9_set 19 = .ok (.invokevirtual 63, 3) := by decide +kernel
theorem dX9_set_22 : decode cX9_set 22 = .ok (.aload_n 0, 1) := by decide +kernel
theorem dX9_set_23 : decode cX9_set 23 = .ok (.getfield 19, 3) := by decide +kernel
theorem dX9_set_26 : decode cX9_set 26 = .ok (.getfield 49, 3) := by decide +kernel
theorem dX9_set_29 : decode cX9_set 29 = .ok (.iload_n 1, 1) := by decide +kernel
theorem dX9_set_30 : decode cX9_set 30 = .ok (.invokevirtual 143, 3) := by decide +kernel
theorem dX9_set_33 : decode cX9_set 33 = .ok (.istore_n 3, 1) := by decide +kernel
theorem dX9_set_34 : decode cX9_set 34 = .ok (.aload_n 0, 1) := by decide +kernel
theorem dX9_set_35 : decode cX9_set 35 = .ok (.getfield 19, 3) := by decide +kernel
theorem dX9_set_38 : decode cX9_set 38 = .ok (.getfield 49, 3) := by decide +kernel
theorem dX9_set_41 : decode cX9_set 41 = .ok (.iload_n 1, 1) := by decide +kernel
theorem dX9_set_42 : decode cX9_set 42 = .ok (.iload_n 2, 1) := by decide +kernel
theorem dX9_set_43 : decode cX9_set 43 = .ok (.invokevirtual 146, 3) := by decide +kernel
theorem dX9_set_46 : decode cX9_set 46 = .ok (.iload_n 3, 1) := by decide +kernel
theorem dX9_set_47 : decode cX9_set 47 = .ok (.ireturn, 1) := by decide +kernel
theorem dX9_grant_0 : decode cX9_grant 0 = .ok (.iload_n 1, 1) := by decide +kernel
theorem dX9_grant_1 : decode cX9_grant 1 = .ok (.iconst 1, 1) := by decide +kernel
theorem dX9_grant_2 : decode cX9_grant 2 = .ok (.if_icmp .lt 10, 3) := by decide +kernel
theorem dX9_grant_5 : decode cX9_grant 5 = .ok (.iload_n 1, 1) := by decide +kernel
theorem dX9_grant_6 : decode cX9_grant 6 = .ok (.sipush 999, 3) := by decide +kernel
theorem dX9_grant_9 : decode cX9_grant 9 = .ok (.if_icmp .le 6, 3) := by decide +kernel
theorem dX9_grant_12 : decode cX9_grant 12 = .ok (.ldc 48, 2) := by decide +kernel
theorem dX9_grant_14 : decode cX9_grant 14 = .ok (.ireturn, 1) := by decide +kernel
theorem dX9_grant_15 : decode cX9_grant 15 = .ok (.aload_n 0, 1) := by decide +kernel
theorem dX9_grant_16 : decode cX9_grant 16 = .ok (.getfield 19, 3) := by decide +kernel
theorem dX9_grant_19 : decode cX9_grant 19 = .ok (.getfield 49, 3) := by decide +kernel
theorem dX9_grant_22 : decode cX9_grant 22 = .ok (.astore_n 2, 1) := by decide +kernel
theorem dX9_grant_23 : decode cX9_grant 23 = .ok (.aload_n 2, 1) := by decide +kernel
theorem dX9_grant_24 : decode cX9_grant 24 = .ok (.getfield 150, 3) := by decide +kernel
theorem dX9_grant_27 : decode cX9_grant 27 = .ok (.iload_n 1, 1) := by decide +kernel
theorem dX9_grant_28 : decode cX9_grant 28 = .ok (.iadd, 1) := by decide +kernel
theorem dX9_grant_29 : decode cX9_grant 29 = .ok (.sipush 9999, 3) := by decide +kernel
theorem dX9_grant_32 : decode cX9_grant 32 = .ok (.if_icmp .le 6, 3) := by decide +kernel
theorem dX9_grant_35 : decode cX9_grant 35 = .ok (.ldc 62, 2) := by decide +kernel
theorem dX9_grant_37 : decode cX9_grant 37 = .ok (.ireturn, 1) := by decide +kernel
theorem dX9_grant_38 : decode cX9_grant 38 = .ok (.aload_n 0, 1) := by decide +kernel
theorem dX9_grant_39 : decode cX9_grant 39 = .ok (.getfield 26, 3) := by decide +kernel
theorem dX9_grant_42 : decode cX9_grant 42 = .ok (.aload_n 0, 1) := by decide +kernel
theorem dX9_grant_43 : decode cX9_grant 43 = .ok (.getfield 19, 3) := by decide +kernel
theorem dX9_grant_46 : decode cX9_grant 46 = .ok (.invokevirtual 63, 3) := by decide +kernel
theorem dX9_grant_49 : decode cX9_grant 49 = .ok (.aload_n 2, 1) := by decide +kernel
theorem dX9_grant_50 : decode cX9_grant 50 = .ok (.iload_n 1, 1) := by decide +kernel
theorem dX9_grant_51 : decode cX9_grant 51 = .ok (.invokevirtual 153, 3) := by decide +kernel
theorem dX9_grant_54 : decode cX9_grant 54 = .ok (.aload_n 2, 1) := by decide +kernel
theorem dX9_grant_55 : decode cX9_grant 55 = .ok (.getfield 150, 3) := by decide +kernel
theorem dX9_grant_58 : decode cX9_grant 58 = .ok (.ireturn, 1) := by decide +kernel
theorem dX9_tick_0 : decode cX9_tick 0 = .ok (.aload_n 0, 1) := by decide +kernel
theorem dX9_tick_1 : decode cX9_tick 1 = .ok (.getfield 19, 3) := by decide +kernel
theorem dX9_tick_4 : decode cX9_tick 4 = .ok (.getfield 49, 3) := by decide +kernel
theorem dX9_tick_7 : decode cX9_tick 7 = .ok (.astore_n 1, 1) := by decide +kernel
theorem dX9_tick_8 : decode cX9_tick 8 = .ok (.aload_n 1, 1) := by decide +kernel
theorem dX9_tick_9 : decode cX9_tick 9 = .ok (.getfield 150, 3) := by decide +kernel
theorem dX9_tick_12 : decode cX9_tick 12 = .ok (.aload_n 1, 1) := by decide +kernel
theorem dX9_tick_13 : decode cX9_tick 13 = .ok (.iconst 3, 1) := by decide +kernel
theorem dX9_tick_14 : decode cX9_tick 14 = .ok (.invokevirtual 143, 3) := by decide +kernel
theorem dX9_tick_17 : decode cX9_tick 17 = .ok (.iadd, 1) := by decide +kernel
theorem dX9_tick_18 : decode cX9_tick 18 = .ok (.sipush 9999, 3) := by decide +kernel
theorem dX9_tick_21 : decode cX9_tick 21 = .ok (.if_icmp .le 6, 3) := by decide +kernel
theorem dX9_tick_24 : decode cX9_tick 24 = .ok (.ldc 62, 2) := by decide +kernel
theorem dX9_tick_26 : decode cX9_tick 26 = .ok (.ireturn, 1) := by decide +kernel
theorem dX9_tick_27 : decode cX9_tick 27 = .ok (.aload_n 0, 1) := by decide +kernel
theorem dX9_tick_28 : decode cX9_tick 28 = .ok (.getfield 26, 3) := by decide +kernel
theorem dX9_tick_31 : decode cX9_tick 31 = .ok (.aload_n 0, 1) := by decide +kernel
theorem dX9_tick_32 : decode cX9_tick 32 = .ok (.getfield 19, 3) := by decide +kernel
theorem dX9_tick_35 : decode cX9_tick 35 = .ok (.invokevirtual 63, 3) := by decide +kernel
theorem dX9_tick_38 : decode cX9_tick 38 = .ok (.aload_n 1, 1) := by decide +kernel
theorem dX9_tick_39 : decode cX9_tick 39 = .ok (.invokevirtual 157, 3) := by decide +kernel
theorem dX9_tick_42 : decode cX9_tick 42 = .ok (.ireturn, 1) := by decide +kernel
theorem dX9_pay_0 : decode cX9_pay 0 = .ok (.aload_n 0, 1) := by decide +kernel
theorem dX9_pay_1 : decode cX9_pay 1 = .ok (.getfield 19, 3) := by decide +kernel
theorem dX9_pay_4 : decode cX9_pay 4 = .ok (.getfield 49, 3) := by decide +kernel
theorem dX9_pay_7 : decode cX9_pay 7 = .ok (.astore_n 3, 1) := by decide +kernel
theorem dX9_pay_8 : decode cX9_pay 8 = .ok (.aload_n 3, 1) := by decide +kernel
theorem dX9_pay_9 : decode cX9_pay 9 = .ok (.iload_n 1, 1) := by decide +kernel
theorem dX9_pay_10 : decode cX9_pay 10 = .ok (.invokevirtual 116, 3) := by decide +kernel
theorem dX9_pay_13 : decode cX9_pay 13 = .ok (.astore 4, 2) := by decide +kernel
theorem dX9_pay_15 : decode cX9_pay 15 = .ok (.aload 4, 2) := by decide +kernel
theorem dX9_pay_17 : decode cX9_pay 17 = .ok (.ifnull 15, 3) := by decide +kernel
theorem dX9_pay_20 : decode cX9_pay 20 = .ok (.iload_n 2, 1) := by decide +kernel
theorem dX9_pay_21 : decode cX9_pay 21 = .ok (.iconst 1, 1) := by decide +kernel
theorem dX9_pay_22 : decode cX9_pay 22 = .ok (.if_icmp .lt 10, 3) := by decide +kernel
theorem dX9_pay_25 : decode cX9_pay 25 = .ok (.iload_n 2, 1) := by decide +kernel
theorem dX9_pay_26 : decode cX9_pay 26 = .ok (.sipush 999, 3) := by decide +kernel
theorem dX9_pay_29 : decode cX9_pay 29 = .ok (.if_icmp .le 6, 3) := by decide +kernel
theorem dX9_pay_32 : decode cX9_pay 32 = .ok (.ldc 48, 2) := by decide +kernel
theorem dX9_pay_34 : decode cX9_pay 34 = .ok (.ireturn, 1) := by decide +kernel
theorem dX9_pay_35 : decode cX9_pay 35 = .ok (.aload 4, 2) := by decide +kernel
theorem dX9_pay_37 : decode cX9_pay 37 = .ok (.getfield 161, 3) := by decide +kernel
theorem dX9_pay_40 : decode cX9_pay 40 = .ok (.ifCond .ne 10, 3) := by decide +kernel
theorem dX9_pay_43 : decode cX9_pay 43 = .ok (.aload_n 3, 1) := by decide +kernel
theorem dX9_pay_44 : decode cX9_pay 44 = .ok (.getfield 150, 3) := by decide +kernel
theorem dX9_pay_47 : decode cX9_pay 47 = .ok (.ifCond .ne 6, 3) := by decide +kernel
theorem dX9_pay_50 : decode cX9_pay 50 = .ok (.ldc 124, 2) := by decide +kernel
theorem dX9_pay_52 : decode cX9_pay 52 = .ok (.ireturn, 1) := by decide +kernel
theorem dX9_pay_53 : decode cX9_pay 53 = .ok (.aload_n 0, 1) := by decide +kernel
theorem dX9_pay_54 : decode cX9_pay 54 = .ok (.getfield 26, 3) := by decide +kernel
theorem dX9_pay_57 : decode cX9_pay 57 = .ok (.aload_n 0, 1) := by decide +kernel
theorem dX9_pay_58 : decode cX9_pay 58 = .ok (.getfield 19, 3) := by decide +kernel
theorem dX9_pay_61 : decode cX9_pay 61 = .ok (.invokevirtual 63, 3) := by decide +kernel
theorem dX9_pay_64 : decode cX9_pay 64 = .ok (.aload_n 3, 1) := by decide +kernel
theorem dX9_pay_65 : decode cX9_pay 65 = .ok (.aload 4, 2) := by decide +kernel
theorem dX9_pay_67 : decode cX9_pay 67 = .ok (.iload_n 2, 1) := by decide +kernel
theorem dX9_pay_68 : decode cX9_pay 68 = .ok (.invokevirtual 164, 3) := by decide +kernel
theorem dX9_pay_71 : decode cX9_pay 71 = .ok (.ireturn, 1) := by decide +kernel
theorem dX9_payAll_0 : decode cX9_payAll 0 = .ok (.aload_n 0, 1) := by decide +kernel
theorem dX9_payAll_1 : decode cX9_payAll 1 = .ok (.getfield 19, 3) := by decide +kernel
theorem dX9_payAll_4 : decode cX9_payAll 4 = .ok (.getfield 49, 3) := by decide +kernel
theorem dX9_payAll_7 : decode cX9_payAll 7 = .ok (.astore_n 1, 1) := by decide +kernel
theorem dX9_payAll_8 : decode cX9_payAll 8 = .ok (.aload_n 1, 1) := by decide +kernel
theorem dX9_payAll_9 : decode cX9_payAll 9 = .ok (.getfield 150, 3) := by decide +kernel
theorem dX9_payAll_12 : decode cX9_payAll 12 = .ok (.ifCond .ne 6, 3) := by decide +kernel
theorem dX9_payAll_15 : decode cX9_payAll 15 = .ok (.ldc 124, 2) := by decide +kernel
theorem dX9_payAll_17 : decode cX9_payAll 17 = .ok (.ireturn, 1) := by decide +kernel
theorem dX9_payAll_18 : decode cX9_payAll 18 = .ok (.aload_n 0, 1) := by decide +kernel
theorem dX9_payAll_19 : decode cX9_payAll 19 = .ok (.getfield 26, 3) := by decide +kernel
theorem dX9_payAll_22 : decode cX9_payAll 22 = .ok (.aload_n 0, 1) := by decide +kernel
theorem dX9_payAll_23 : decode cX9_payAll 23 = .ok (.getfield 19, 3) := by decide +kernel
theorem dX9_payAll_26 : decode cX9_payAll 26 = .ok (.invokevirtual 63, 3) := by decide +kernel
theorem dX9_payAll_29 : decode cX9_payAll 29 = .ok (.aload_n 1, 1) := by decide +kernel
theorem dX9_payAll_30 : decode cX9_payAll 30 = .ok (.invokevirtual 168, 3) := by decide +kernel
theorem dX9_payAll_33 : decode cX9_payAll 33 = .ok (.ireturn, 1) := by decide +kernel
theorem dX9_found_0 : decode cX9_found 0 = .ok (.aload_n 0, 1) := by decide +kernel
theorem dX9_found_1 : decode cX9_found 1 = .ok (.getfield 19, 3) := by decide +kernel
theorem dX9_found_4 : decode cX9_found 4 = .ok (.getfield 49, 3) := by decide +kernel
theorem dX9_found_7 : decode cX9_found 7 = .ok (.astore_n 2, 1) := by decide +kernel
theorem dX9_found_8 : decode cX9_found 8 = .ok (.aload_n 2, 1) := by decide +kernel
theorem dX9_found_9 : decode cX9_found 9 = .ok (.iload_n 1, 1) := by decide +kernel
theorem dX9_found_10 : decode cX9_found 10 = .ok (.invokevirtual 116, 3) := by decide +kernel
theorem dX9_found_13 : decode cX9_found 13 = .ok (.astore_n 3, 1) := by decide +kernel
theorem dX9_found_14 : decode cX9_found 14 = .ok (.aload_n 3, 1) := by decide +kernel
theorem dX9_found_15 : decode cX9_found 15 = .ok (.ifnonnull 6, 3) := by decide +kernel
theorem dX9_found_18 : decode cX9_found 18 = .ok (.ldc 48, 2) := by decide +kernel
theorem dX9_found_20 : decode cX9_found 20 = .ok (.ireturn, 1) := by decide +kernel
theorem dX9_found_21 : decode cX9_found 21 = .ok (.aload_n 2, 1) := by decide +kernel
theorem dX9_found_22 : decode cX9_found 22 = .ok (.aload_n 3, 1) := by decide +kernel
theorem dX9_found_23 : decode cX9_found 23 = .ok (.invokevirtual 171, 3) := by decide +kernel
theorem dX9_found_26 : decode cX9_found 26 = .ok (.istore 4, 2) := by decide +kernel
theorem dX9_found_28 : decode cX9_found 28 = .ok (.aload_n 3, 1) := by decide +kernel
theorem dX9_found_29 : decode cX9_found 29 = .ok (.getfield 161, 3) := by decide +kernel
theorem dX9_found_32 : decode cX9_found 32 = .ok (.ifCond .eq 12, 3) := by decide +kernel
theorem dX9_found_35 : decode cX9_found 35 = .ok (.aload_n 2, 1) := by decide +kernel
theorem dX9_found_36 : decode cX9_found 36 = .ok (.getfield 150, 3) := by decide +kernel
theorem dX9_found_39 : decode cX9_found 39 = .ok (.iload 4, 2) := by decide +kernel
theorem dX9_found_41 : decode cX9_found 41 = .ok (.if_icmp .ge 6, 3) := by decide +kernel
theorem dX9_found_44 : decode cX9_found 44 = .ok (.ldc 124, 2) := by decide +kernel
theorem dX9_found_46 : decode cX9_found 46 = .ok (.ireturn, 1) := by decide +kernel
theorem dX9_found_47 : decode cX9_found 47 = .ok (.aload_n 0, 1) := by decide +kernel
theorem dX9_found_48 : decode cX9_found 48 = .ok (.getfield 26, 3) := by decide +kernel
theorem dX9_found_51 : decode cX9_found 51 = .ok (.aload_n 0, 1) := by decide +kernel
theorem dX9_found_52 : decode cX9_found 52 = .ok (.getfield 19, 3) := by decide +kernel
theorem dX9_found_55 : decode cX9_found 55 = .ok (.invokevirtual 63, 3) := by decide +kernel
theorem dX9_found_58 : decode cX9_found 58 = .ok (.aload_n 2, 1) := by decide +kernel
theorem dX9_found_59 : decode cX9_found 59 = .ok (.aload_n 3, 1) := by decide +kernel
theorem dX9_found_60 : decode cX9_found 60 = .ok (.iload 4, 2) := by decide +kernel
theorem dX9_found_62 : decode cX9_found 62 = .ok (.invokevirtual 175, 3) := by decide +kernel
theorem dX9_found_65 : decode cX9_found 65 = .ok (.iload 4, 2) := by decide +kernel
theorem dX9_found_67 : decode cX9_found 67 = .ok (.ireturn, 1) := by decide +kernel
theorem dX9_take_0 : decode cX9_take 0 = .ok (.iload_n 1, 1) := by decide +kernel
theorem dX9_take_1 : decode cX9_take 1 = .ok (.ifCond .lt 8, 3) := by decide +kernel
theorem dX9_take_4 : decode cX9_take 4 = .ok (.iload_n 1, 1) := by decide +kernel
theorem dX9_take_5 : decode cX9_take 5 = .ok (.iconst 2, 1) := by decide +kernel
theorem dX9_take_6 : decode cX9_take 6 = .ok (.if_icmp .lt 6, 3) := by decide +kernel
theorem dX9_take_9 : decode cX9_take 9 = .ok (.ldc 48, 2) := by decide +kernel
theorem dX9_take_11 : decode cX9_take 11 = .ok (.ireturn, 1) := by decide +kernel
theorem dX9_take_12 : decode cX9_take 12 = .ok (.aload_n 0, 1) := by decide +kernel
theorem dX9_take_13 : decode cX9_take 13 = .ok (.getfield 26, 3) := by decide +kernel
theorem dX9_take_16 : decode cX9_take 16 = .ok (.aload_n 0, 1) := by decide +kernel
theorem dX9_take_17 : decode cX9_take 17 = .ok (.getfield 19, 3) := by decide +kernel
theorem dX9_take_20 : decode cX9_take 20 = .ok (.invokevirtual 63, 3) := by decide +kernel
theorem dX9_take_23 : decode cX9_take 23 = .ok (.aload_n 0, 1) := by decide +kernel
theorem dX9_take_24 : decode cX9_take 24 = .ok (.getfield 19, 3) := by decide +kernel
theorem dX9_take_27 : decode cX9_take 27 = .ok (.iload_n 1, 1) := by decide +kernel
theorem dX9_take_28 : decode cX9_take 28 = .ok (.aload_n 0, 1) := by decide +kernel
theorem dX9_take_29 : decode cX9_take 29 = .ok (.getfield 19, 3) := by decide +kernel
theorem dX9_take_32 : decode cX9_take 32 = .ok (.getfield 49, 3) := by decide +kernel
theorem dX9_take_35 : decode cX9_take 35 = .ok (.invokevirtual 179, 3) := by decide +kernel
theorem dX9_take_38 : decode cX9_take 38 = .ok (.aload_n 0, 1) := by decide +kernel
theorem dX9_take_39 : decode cX9_take 39 = .ok (.getfield 19, 3) := by decide +kernel
theorem dX9_take_42 : decode cX9_take 42 = .ok (.getfield 49, 3) := by decide +kernel
theorem dX9_take_45 : decode cX9_take 45 = .ok (.getfield 52, 3) := by decide +kernel
theorem dX9_take_48 : decode cX9_take 48 = .ok (.getfield 183, 3) := by decide +kernel
theorem dX9_take_51 : decode cX9_take 51 = .ok (.ireturn, 1) := by decide +kernel
theorem dX9_restore_0 : decode cX9_restore 0 = .ok (.iload_n 1, 1) := by decide +kernel
theorem dX9_restore_1 : decode cX9_restore 1 = .ok (.ifCond .lt 8, 3) := by decide +kernel
theorem dX9_restore_4 : decode cX9_restore 4 = .ok (.iload_n 1, 1) := by decide +kernel
theorem dX9_restore_5 : decode cX9_restore 5 = .ok (.iconst 2, 1) := by decide +kernel
theorem dX9_restore_6 : decode cX9_restore 6 = .ok (.if_icmp .lt 6, 3) := by decide +kernel
theorem dX9_restore_9 : decode cX9_restore 9 = .ok (.ldc 48, 2) := by decide +kernel
theorem dX9_restore_11 : decode cX9_restore 11 = .ok (.ireturn, 1) := by decide +kernel
theorem dX9_restore_12 : decode cX9_restore 12 = .ok (.aload_n 0, 1) := by decide +kernel
theorem dX9_restore_13 : decode cX9_restore 13 = .ok (.getfield 19, 3) := by decide +kernel
theorem dX9_restore_16 : decode cX9_restore 16 = .ok (.iload_n 1, 1) := by decide +kernel
theorem dX9_restore_17 : decode cX9_restore 17 = .ok (.invokevirtual 186, 3) := by decide +kernel
theorem dX9_restore_20 : decode cX9_restore 20 = .ok (.ifCond .ne 6, 3) := by decide +kernel
theorem dX9_restore_23 : decode cX9_restore 23 = .ok (.ldc 124, 2) := by decide +kernel
theorem dX9_restore_25 : decode cX9_restore 25 = .ok (.ireturn, 1) := by decide +kernel
theorem dX9_restore_26 : decode cX9_restore 26 = .ok (.aload_n 0, 1) := by decide +kernel
theorem dX9_restore_27 : decode cX9_restore 27 = .ok (.getfield 26, 3) := by decide +kernel
theorem dX9_restore_30 : decode cX9_restore 30 = .ok (.aload_n 0, 1) := by decide +kernel
theorem dX9_restore_31 : decode cX9_restore 31 = .ok (.getfield 19, 3) := by decide +kernel
theorem dX9_restore_34 : decode cX9_restore 34 = .ok (.invokevirtual 63, 3) := by decide +kernel
theorem dX9_restore_37 : decode cX9_restore 37 = .ok (.aload_n 0, 1) := by decide +kernel
theorem dX9_restore_38 : decode cX9_restore 38 = .ok (.getfield 19, 3) := by decide +kernel
theorem dX9_restore_41 : decode cX9_restore 41 = .ok (.iload_n 1, 1) := by decide +kernel
theorem dX9_restore_42 : decode cX9_restore 42 = .ok (.invokevirtual 189, 3) := by decide +kernel
theorem dX9_restore_45 : decode cX9_restore 45 = .ok (.aload_n 0, 1) := by decide +kernel
theorem dX9_restore_46 : decode cX9_restore 46 = .ok (.getfield 19, 3) := by decide +kernel
theorem dX9_restore_49 : decode cX9_restore 49 = .ok (.getfield 49, 3) := by decide +kernel
theorem dX9_restore_52 : decode cX9_restore 52 = .ok (.getfield 52, 3) := by decide +kernel
theorem dX9_restore_55 : decode cX9_restore 55 = .ok (.getfield 183, 3) := by decide +kernel
theorem dX9_restore_58 : decode cX9_restore 58 = .ok (.ireturn, 1) := by decide +kernel
theorem dX9_undo_0 : decode cX9_undo 0 = .ok (.aload_n 0, 1) := by decide +kernel
theorem dX9_undo_1 : decode cX9_undo 1 = .ok (.getfield 26, 3) := by decide +kernel
theorem dX9_undo_4 : decode cX9_undo 4 = .ok (.getfield 192, 3) := by decide +kernel
theorem dX9_undo_7 : decode cX9_undo 7 = .ok (.ifCond .ne 6, 3) := by decide +kernel
theorem dX9_undo_10 : decode cX9_undo 10 = .ok (.ldc 124, 2) := by decide +kernel
theorem dX9_undo_12 : decode cX9_undo 12 = .ok (.ireturn, 1) := by decide +kernel
theorem dX9_undo_13 : decode cX9_undo 13 = .ok (.aload_n 0, 1) := by decide +kernel
theorem dX9_undo_14 : decode cX9_undo 14 = .ok (.getfield 26, 3) := by decide +kernel
theorem dX9_undo_17 : decode cX9_undo 17 = .ok (.aload_n 0, 1) := by decide +kernel
theorem dX9_undo_18 : decode cX9_undo 18 = .ok (.getfield 19, 3) := by decide +kernel
theorem dX9_undo_21 : decode cX9_undo 21 = .ok (.invokevirtual 195, 3) := by decide +kernel
theorem dX9_undo_24 : decode cX9_undo 24 = .ok (.aload_n 0, 1) := by decide +kernel
theorem dX9_undo_25 : decode cX9_undo 25 = .ok (.getfield 26, 3) := by decide +kernel
theorem dX9_undo_28 : decode cX9_undo 28 = .ok (.getfield 192, 3) := by decide +kernel
theorem dX9_undo_31 : decode cX9_undo 31 = .ok (.ireturn, 1) := by decide +kernel
theorem dX9_append_0 : decode cX9_append 0 = .ok (.iload_n 1, 1) := by decide +kernel
theorem dX9_append_1 : decode cX9_append 1 = .ok (.iconst 1, 1) := by decide +kernel
theorem dX9_append_2 : decode cX9_append 2 = .ok (.if_icmp .lt 10, 3) := by decide +kernel
theorem dX9_append_5 : decode cX9_append 5 = .ok (.iload_n 1, 1) := by decide +kernel
theorem dX9_append_6 : decode cX9_append 6 = .ok (.sipush 255, 3) := by decide +kernel
theorem dX9_append_9 : decode cX9_append 9 = .ok (.if_icmp .le 6, 3) := by decide +kernel
theorem dX9_append_12 : decode cX9_append 12 = .ok (.ldc 48, 2) := by decide +kernel
theorem dX9_append_14 : decode cX9_append 14 = .ok (.ireturn, 1) := by decide +kernel
theorem dX9_append_15 : decode cX9_append 15 = .ok (.aload_n 0, 1) := by decide +kernel
theorem dX9_append_16 : decode cX9_append 16 = .ok (.getfield 12, 3) := by decide +kernel
theorem dX9_append_19 : decode cX9_append 19 = .ok (.getfield 100, 3) := by decide +kernel
end
section
theorem dX9_append_22 : decode cX9_append 22 = .ok (.invokevirtual 198, 3) := by decide +kernel
theorem dX9_append_25 : decode cX9_append 25 = .ok (.ifCond .eq 6, 3) := by decide +kernel
theorem dX9_append_28 : decode cX9_append 28 = .ok (.ldc 62, 2) := by decide +kernel
theorem dX9_append_30 : decode cX9_append 30 = .ok (.ireturn, 1) := by decide +kernel
theorem dX9_append_31 : decode cX9_append 31 = .ok (.aload_n 0, 1) := by decide +kernel
theorem dX9_append_32 : decode cX9_append 32 = .ok (.getfield 12, 3) := by decide +kernel
theorem dX9_append_35 : decode cX9_append 35 = .ok (.getfield 100, 3) := by decide +kernel
theorem dX9_append_38 : decode cX9_append 38 = .ok (.iload_n 1, 1) := by decide +kernel
theorem dX9_append_39 : decode cX9_append 39 = .ok (.invokevirtual 199, 3) := by decide +kernel
theorem dX9_append_42 : decode cX9_append 42 = .ok (.aload_n 0, 1) := by decide +kernel
theorem dX9_append_43 : decode cX9_append 43 = .ok (.getfield 12, 3) := by decide +kernel
theorem dX9_append_46 : decode cX9_append 46 = .ok (.getfield 100, 3) := by decide +kernel
theorem dX9_append_49 : decode cX9_append 49 = .ok (.getfield 201, 3) := by decide +kernel
theorem dX9_append_52 : decode cX9_append 52 = .ok (.ireturn, 1) := by decide +kernel
theorem dX9_clearText_0 : decode cX9_clearText 0 = .ok (.aload_n 0, 1) := by decide +kernel
theorem dX9_clearText_1 : decode cX9_clearText 1 = .ok (.getfield 12, 3) := by decide +kernel
theorem dX9_clearText_4 : decode cX9_clearText 4 = .ok (.getfield 100, 3) := by decide +kernel
theorem dX9_clearText_7 : decode cX9_clearText 7 = .ok (.getfield 201, 3) := by decide +kernel
theorem dX9_clearText_10 : decode cX9_clearText 10 = .ok (.istore_n 1, 1) := by decide +kernel
theorem dX9_clearText_11 : decode cX9_clearText 11 = .ok (.aload_n 0, 1) := by decide +kernel
theorem dX9_clearText_12 : decode cX9_clearText 12 = .ok (.getfield 12, 3) := by decide +kernel
theorem dX9_clearText_15 : decode cX9_clearText 15 = .ok (.getfield 100, 3) := by decide +kernel
theorem dX9_clearText_18 : decode cX9_clearText 18 = .ok (.invokevirtual 104, 3) := by decide +kernel
theorem dX9_clearText_21 : decode cX9_clearText 21 = .ok (.iload_n 1, 1) := by decide +kernel
theorem dX9_clearText_22 : decode cX9_clearText 22 = .ok (.ireturn, 1) := by decide +kernel
theorem dX9_count_0 : decode cX9_count 0 = .ok (.iload_n 1, 1) := by decide +kernel
theorem dX9_count_1 : decode cX9_count 1 = .ok (.ifCond .lt 9, 3) := by decide +kernel
theorem dX9_count_4 : decode cX9_count 4 = .ok (.iload_n 1, 1) := by decide +kernel
theorem dX9_count_5 : decode cX9_count 5 = .ok (.bipush 22, 2) := by decide +kernel
theorem dX9_count_7 : decode cX9_count 7 = .ok (.if_icmp .le 6, 3) := by decide +kernel
theorem dX9_count_10 : decode cX9_count 10 = .ok (.ldc 48, 2) := by decide +kernel
theorem dX9_count_12 : decode cX9_count 12 = .ok (.ireturn, 1) := by decide +kernel
theorem dX9_count_13 : decode cX9_count 13 = .ok (.aload_n 0, 1) := by decide +kernel
theorem dX9_count_14 : decode cX9_count 14 = .ok (.getfield 19, 3) := by decide +kernel
theorem dX9_count_17 : decode cX9_count 17 = .ok (.getfield 49, 3) := by decide +kernel
theorem dX9_count_20 : decode cX9_count 20 = .ok (.astore_n 2, 1) := by decide +kernel
theorem dX9_count_21 : decode cX9_count 21 = .ok (.iload_n 1, 1) := by decide +kernel
theorem dX9_count_22 : decode cX9_count 22 = .ok (.tableswitch 189 0 16 #[82, 90, 99, 104, 110, 116, 122, 127, 132, 137, 142, 147, 152, 157, 162, 170, 178], 82) := by decide +kernel
theorem dX9_count_104 : decode cX9_count 104 = .ok (.aload_n 2, 1) := by decide +kernel
theorem dX9_count_105 : decode cX9_count 105 = .ok (.getfield 52, 3) := by decide +kernel
theorem dX9_count_108 : decode cX9_count 108 = .ok (.getfield 183, 3) := by decide +kernel
theorem dX9_count_111 : decode cX9_count 111 = .ok (.ireturn, 1) := by decide +kernel
theorem dX9_count_112 : decode cX9_count 112 = .ok (.aload_n 2, 1) := by decide +kernel
theorem dX9_count_113 : decode cX9_count 113 = .ok (.iconst 0, 1) := by decide +kernel
theorem dX9_count_114 : decode cX9_count 114 = .ok (.invokevirtual 131, 3) := by decide +kernel
theorem dX9_count_117 : decode cX9_count 117 = .ok (.invokestatic 135, 3) := by decide +kernel
theorem dX9_count_120 : decode cX9_count 120 = .ok (.ireturn, 1) := by decide +kernel
theorem dX9_count_121 : decode cX9_count 121 = .ok (.aload_n 2, 1) := by decide +kernel
theorem dX9_count_122 : decode cX9_count 122 = .ok (.getfield 97, 3) := by decide +kernel
theorem dX9_count_125 : decode cX9_count 125 = .ok (.ireturn, 1) := by decide +kernel
theorem dX9_count_126 : decode cX9_count 126 = .ok (.aload_n 2, 1) := by decide +kernel
theorem dX9_count_127 : decode cX9_count 127 = .ok (.iconst 0, 1) := by decide +kernel
theorem dX9_count_128 : decode cX9_count 128 = .ok (.invokevirtual 131, 3) := by decide +kernel
theorem dX9_count_131 : decode cX9_count 131 = .ok (.ireturn, 1) := by decide +kernel
theorem dX9_count_132 : decode cX9_count 132 = .ok (.aload_n 2, 1) := by decide +kernel
theorem dX9_count_133 : decode cX9_count 133 = .ok (.iconst 1, 1) := by decide +kernel
theorem dX9_count_134 : decode cX9_count 134 = .ok (.invokevirtual 131, 3) := by decide +kernel
theorem dX9_count_137 : decode cX9_count 137 = .ok (.ireturn, 1) := by decide +kernel
theorem dX9_count_138 : decode cX9_count 138 = .ok (.aload_n 2, 1) := by decide +kernel
theorem dX9_count_139 : decode cX9_count 139 = .ok (.iconst 3, 1) := by decide +kernel
theorem dX9_count_140 : decode cX9_count 140 = .ok (.invokevirtual 131, 3) := by decide +kernel
theorem dX9_count_143 : decode cX9_count 143 = .ok (.ireturn, 1) := by decide +kernel
theorem dX9_count_144 : decode cX9_count 144 = .ok (.aload_n 2, 1) := by decide +kernel
theorem dX9_count_145 : decode cX9_count 145 = .ok (.getfield 150, 3) := by decide +kernel
theorem dX9_count_148 : decode cX9_count 148 = .ok (.ireturn, 1) := by decide +kernel
theorem dX9_count_149 : decode cX9_count 149 = .ok (.aload_n 2, 1) := by decide +kernel
theorem dX9_count_150 : decode cX9_count 150 = .ok (.getfield 204, 3) := by decide +kernel
theorem dX9_count_153 : decode cX9_count 153 = .ok (.ireturn, 1) := by decide +kernel
theorem dX9_count_154 : decode cX9_count 154 = .ok (.aload_n 2, 1) := by decide +kernel
theorem dX9_count_155 : decode cX9_count 155 = .ok (.getfield 207, 3) := by decide +kernel
theorem dX9_count_158 : decode cX9_count 158 = .ok (.ireturn, 1) := by decide +kernel
theorem dX9_count_159 : decode cX9_count 159 = .ok (.aload_n 2, 1) := by decide +kernel
theorem dX9_count_160 : decode cX9_count 160 = .ok (.getfield 210, 3) := by decide +kernel
theorem dX9_count_163 : decode cX9_count 163 = .ok (.ireturn, 1) := by decide +kernel
theorem dX9_count_164 : decode cX9_count 164 = .ok (.aload_n 2, 1) := by decide +kernel
theorem dX9_count_165 : decode cX9_count 165 = .ok (.getfield 213, 3) := by decide +kernel
theorem dX9_count_168 : decode cX9_count 168 = .ok (.ireturn, 1) := by decide +kernel
theorem dX9_count_169 : decode cX9_count 169 = .ok (.aload_n 2, 1) := by decide +kernel
theorem dX9_count_170 : decode cX9_count 170 = .ok (.getfield 216, 3) := by decide +kernel
theorem dX9_count_173 : decode cX9_count 173 = .ok (.ireturn, 1) := by decide +kernel
theorem dX9_count_174 : decode cX9_count 174 = .ok (.aload_n 2, 1) := by decide +kernel
theorem dX9_count_175 : decode cX9_count 175 = .ok (.invokevirtual 219, 3) := by decide +kernel
theorem dX9_count_178 : decode cX9_count 178 = .ok (.ireturn, 1) := by decide +kernel
theorem dX9_count_179 : decode cX9_count 179 = .ok (.aload_n 2, 1) := by decide +kernel
theorem dX9_count_180 : decode cX9_count 180 = .ok (.getfield 222, 3) := by decide +kernel
theorem dX9_count_183 : decode cX9_count 183 = .ok (.ireturn, 1) := by decide +kernel
theorem dX9_count_184 : decode cX9_count 184 = .ok (.aload_n 0, 1) := by decide +kernel
theorem dX9_count_185 : decode cX9_count 185 = .ok (.getfield 19, 3) := by decide +kernel
theorem dX9_count_188 : decode cX9_count 188 = .ok (.invokevirtual 225, 3) := by decide +kernel
theorem dX9_count_191 : decode cX9_count 191 = .ok (.ireturn, 1) := by decide +kernel
theorem dX9_count_192 : decode cX9_count 192 = .ok (.aload_n 0, 1) := by decide +kernel
theorem dX9_count_193 : decode cX9_count 193 = .ok (.getfield 26, 3) := by decide +kernel
theorem dX9_count_196 : decode cX9_count 196 = .ok (.getfield 192, 3) := by decide +kernel
theorem dX9_count_199 : decode cX9_count 199 = .ok (.ireturn, 1) := by decide +kernel
theorem dX9_count_200 : decode cX9_count 200 = .ok (.aload_n 0, 1) := by decide +kernel
theorem dX9_count_201 : decode cX9_count 201 = .ok (.getfield 12, 3) := by decide +kernel
theorem dX9_count_204 : decode cX9_count 204 = .ok (.getfield 100, 3) := by decide +kernel
theorem dX9_count_207 : decode cX9_count 207 = .ok (.getfield 201, 3) := by decide +kernel
theorem dX9_count_210 : decode cX9_count 210 = .ok (.ireturn, 1) := by decide +kernel
theorem dX9_count_211 : decode cX9_count 211 = .ok (.aload_n 2, 1) := by decide +kernel
theorem dX9_count_212 : decode cX9_count 212 = .ok (.iload_n 1, 1) := by decide +kernel
theorem dX9_count_213 : decode cX9_count 213 = .ok (.bipush 17, 2) := by decide +kernel
theorem dX9_count_215 : decode cX9_count 215 = .ok (.isub, 1) := by decide +kernel
theorem dX9_count_216 : decode cX9_count 216 = .ok (.invokevirtual 143, 3) := by decide +kernel
theorem dX9_count_219 : decode cX9_count 219 = .ok (.ireturn, 1) := by decide +kernel
theorem dX9_value_0 : decode cX9_value 0 = .ok (.aload_n 0, 1) := by decide +kernel
theorem dX9_value_1 : decode cX9_value 1 = .ok (.getfield 19, 3) := by decide +kernel
theorem dX9_value_4 : decode cX9_value 4 = .ok (.getfield 49, 3) := by decide +kernel
theorem dX9_value_7 : decode cX9_value 7 = .ok (.getfield 52, 3) := by decide +kernel
theorem dX9_value_10 : decode cX9_value 10 = .ok (.astore 4, 2) := by decide +kernel
theorem dX9_value_12 : decode cX9_value 12 = .ok (.iload_n 1, 1) := by decide +kernel
theorem dX9_value_13 : decode cX9_value 13 = .ok (.iload_n 2, 1) := by decide +kernel
theorem dX9_value_14 : decode cX9_value 14 = .ok (.invokestatic 44, 3) := by decide +kernel
theorem dX9_value_17 : decode cX9_value 17 = .ok (.ifCond .eq 16, 3) := by decide +kernel
theorem dX9_value_20 : decode cX9_value 20 = .ok (.iload_n 3, 1) := by decide +kernel
theorem dX9_value_21 : decode cX9_value 21 = .ok (.ifCond .lt 12, 3) := by decide +kernel
theorem dX9_value_24 : decode cX9_value 24 = .ok (.iload_n 3, 1) := by decide +kernel
theorem dX9_value_25 : decode cX9_value 25 = .ok (.aload 4, 2) := by decide +kernel
theorem dX9_value_27 : decode cX9_value 27 = .ok (.getfield 183, 3) := by decide +kernel
theorem dX9_value_30 : decode cX9_value 30 = .ok (.if_icmp .le 6, 3) := by decide +kernel
theorem dX9_value_33 : decode cX9_value 33 = .ok (.ldc 48, 2) := by decide +kernel
theorem dX9_value_35 : decode cX9_value 35 = .ok (.ireturn, 1) := by decide +kernel
theorem dX9_value_36 : decode cX9_value 36 = .ok (.aload 4, 2) := by decide +kernel
theorem dX9_value_38 : decode cX9_value 38 = .ok (.iload_n 1, 1) := by decide +kernel
theorem dX9_value_39 : decode cX9_value 39 = .ok (.iload_n 2, 1) := by decide +kernel
theorem dX9_value_40 : decode cX9_value 40 = .ok (.invokestatic 67, 3) := by decide +kernel
theorem dX9_value_43 : decode cX9_value 43 = .ok (.iload_n 3, 1) := by decide +kernel
theorem dX9_value_44 : decode cX9_value 44 = .ok (.invokevirtual 228, 3) := by decide +kernel
theorem dX9_value_47 : decode cX9_value 47 = .ok (.istore 5, 2) := by decide +kernel
theorem dX9_value_49 : decode cX9_value 49 = .ok (.iload 5, 2) := by decide +kernel
theorem dX9_value_51 : decode cX9_value 51 = .ok (.iconst (-1), 1) := by decide +kernel
theorem dX9_value_52 : decode cX9_value 52 = .ok (.if_icmp .ne 8, 3) := by decide +kernel
theorem dX9_value_55 : decode cX9_value 55 = .ok (.ldc 231, 2) := by decide +kernel
theorem dX9_value_57 : decode cX9_value 57 = .ok (.goto 5, 3) := by decide +kernel
theorem dX9_value_60 : decode cX9_value 60 = .ok (.iload 5, 2) := by decide +kernel
theorem dX9_value_62 : decode cX9_value 62 = .ok (.ireturn, 1) := by decide +kernel
theorem dX9_change_0 : decode cX9_change 0 = .ok (.aload_n 0, 1) := by decide +kernel
theorem dX9_change_1 : decode cX9_change 1 = .ok (.getfield 19, 3) := by decide +kernel
theorem dX9_change_4 : decode cX9_change 4 = .ok (.getfield 49, 3) := by decide +kernel
theorem dX9_change_7 : decode cX9_change 7 = .ok (.getfield 52, 3) := by decide +kernel
theorem dX9_change_10 : decode cX9_change 10 = .ok (.astore_n 3, 1) := by decide +kernel
theorem dX9_change_11 : decode cX9_change 11 = .ok (.iload_n 1, 1) := by decide +kernel
theorem dX9_change_12 : decode cX9_change 12 = .ok (.ifCond .lt 20, 3) := by decide +kernel
theorem dX9_change_15 : decode cX9_change 15 = .ok (.iload_n 1, 1) := by decide +kernel
theorem dX9_change_16 : decode cX9_change 16 = .ok (.aload_n 3, 1) := by decide +kernel
theorem dX9_change_17 : decode cX9_change 17 = .ok (.getfield 183, 3) := by decide +kernel
theorem dX9_change_20 : decode cX9_change 20 = .ok (.if_icmp .ge 12, 3) := by decide +kernel
theorem dX9_change_23 : decode cX9_change 23 = .ok (.iload_n 2, 1) := by decide +kernel
theorem dX9_change_24 : decode cX9_change 24 = .ok (.ifCond .lt 8, 3) := by decide +kernel
theorem dX9_change_27 : decode cX9_change 27 = .ok (.iload_n 2, 1) := by decide +kernel
theorem dX9_change_28 : decode cX9_change 28 = .ok (.iconst 3, 1) := by decide +kernel
theorem dX9_change_29 : decode cX9_change 29 = .ok (.if_icmp .le 6, 3) := by decide +kernel
theorem dX9_change_32 : decode cX9_change 32 = .ok (.ldc 48, 2) := by decide +kernel
theorem dX9_change_34 : decode cX9_change 34 = .ok (.ireturn, 1) := by decide +kernel
theorem dX9_change_35 : decode cX9_change 35 = .ok (.aload_n 3, 1) := by decide +kernel
theorem dX9_change_36 : decode cX9_change 36 = .ok (.iload_n 1, 1) := by decide +kernel
theorem dX9_change_37 : decode cX9_change 37 = .ok (.invokevirtual 232, 3) := by decide +kernel
theorem dX9_change_40 : decode cX9_change 40 = .ok (.istore 4, 2) := by decide +kernel
theorem dX9_change_42 : decode cX9_change 42 = .ok (.iload_n 2, 1) := by decide +kernel
theorem dX9_change_43 : decode cX9_change 43 = .ok (.tableswitch 43 0 2 #[25, 31, 37], 25) := by decide +kernel
theorem dX9_change_68 : decode cX9_change 68 = .ok (.iload 4, 2) := by decide +kernel
theorem dX9_change_70 : decode cX9_change 70 = .ok (.bipush 12, 2) := by decide +kernel
theorem dX9_change_72 : decode cX9_change 72 = .ok (.idiv, 1) := by decide +kernel
theorem dX9_change_73 : decode cX9_change 73 = .ok (.ireturn, 1) := by decide +kernel
theorem dX9_change_74 : decode cX9_change 74 = .ok (.iload 4, 2) := by decide +kernel
theorem dX9_change_76 : decode cX9_change 76 = .ok (.bipush 12, 2) := by decide +kernel
theorem dX9_change_78 : decode cX9_change 78 = .ok (.irem, 1) := by decide +kernel
theorem dX9_change_79 : decode cX9_change 79 = .ok (.ireturn, 1) := by decide +kernel
theorem dX9_change_80 : decode cX9_change 80 = .ok (.aload_n 3, 1) := by decide +kernel
theorem dX9_change_81 : decode cX9_change 81 = .ok (.iload_n 1, 1) := by decide +kernel
theorem dX9_change_82 : decode cX9_change 82 = .ok (.invokevirtual 235, 3) := by decide +kernel
theorem dX9_change_85 : decode cX9_change 85 = .ok (.ireturn, 1) := by decide +kernel
theorem dX9_change_86 : decode cX9_change 86 = .ok (.aload_n 0, 1) := by decide +kernel
theorem dX9_change_87 : decode cX9_change 87 = .ok (.getfield 19, 3) := by decide +kernel
theorem dX9_change_90 : decode cX9_change 90 = .ok (.getfield 49, 3) := by decide +kernel
theorem dX9_change_93 : decode cX9_change 93 = .ok (.iload 4, 2) := by decide +kernel
theorem dX9_change_95 : decode cX9_change 95 = .ok (.invokevirtual 238, 3) := by decide +kernel
theorem dX9_change_98 : decode cX9_change 98 = .ok (.ireturn, 1) := by decide +kernel
theorem dX9_view_0 : decode cX9_view 0 = .ok (.aload_n 0, 1) := by decide +kernel
theorem dX9_view_1 : decode cX9_view 1 = .ok (.getfield 19, 3) := by decide +kernel
theorem dX9_view_4 : decode cX9_view 4 = .ok (.getfield 49, 3) := by decide +kernel
theorem dX9_view_7 : decode cX9_view 7 = .ok (.astore_n 3, 1) := by decide +kernel
theorem dX9_view_8 : decode cX9_view 8 = .ok (.aload_n 3, 1) := by decide +kernel
theorem dX9_view_9 : decode cX9_view 9 = .ok (.iload_n 1, 1) := by decide +kernel
theorem dX9_view_10 : decode cX9_view 10 = .ok (.invokevirtual 116, 3) := by decide +kernel
theorem dX9_view_13 : decode cX9_view 13 = .ok (.astore 4, 2) := by decide +kernel
theorem dX9_view_15 : decode cX9_view 15 = .ok (.aload 4, 2) := by decide +kernel
theorem dX9_view_17 : decode cX9_view 17 = .ok (.ifnull 13, 3) := by decide +kernel
theorem dX9_view_20 : decode cX9_view 20 = .ok (.iload_n 2, 1) := by decide +kernel
theorem dX9_view_21 : decode cX9_view 21 = .ok (.ifCond .lt 9, 3) := by decide +kernel
theorem dX9_view_24 : decode cX9_view 24 = .ok (.iload_n 2, 1) := by decide +kernel
theorem dX9_view_25 : decode cX9_view 25 = .ok (.bipush 9, 2) := by decide +kernel
theorem dX9_view_27 : decode cX9_view 27 = .ok (.if_icmp .le 6, 3) := by decide +kernel
theorem dX9_view_30 : decode cX9_view 30 = .ok (.ldc 48, 2) := by decide +kernel
theorem dX9_view_32 : decode cX9_view 32 = .ok (.ireturn, 1) := by decide +kernel
theorem dX9_view_33 : decode cX9_view 33 = .ok (.iload_n 2, 1) := by decide +kernel
theorem dX9_view_34 : decode cX9_view 34 = .ok (.tableswitch 140 0 8 #[50, 56, 75, 81, 87, 101, 120, 127, 133], 50) := by decide +kernel
theorem dX9_view_84 : decode cX9_view 84 = .ok (.aload 4, 2) := by decide +kernel
theorem dX9_view_86 : decode cX9_view 86 = .ok (.getfield 241, 3) := by decide +kernel
theorem dX9_view_89 : decode cX9_view 89 = .ok (.ireturn, 1) := by decide +kernel
theorem dX9_view_90 : decode cX9_view 90 = .ok (.aload 4, 2) := by decide +kernel
theorem dX9_view_92 : decode cX9_view 92 = .ok (.invokevirtual 242, 3) := by decide +kernel
theorem dX9_view_95 : decode cX9_view 95 = .ok (.ifCond .eq 11, 3) := by decide +kernel
theorem dX9_view_98 : decode cX9_view 98 = .ok (.aload 4, 2) := by decide +kernel
theorem dX9_view_100 : decode cX9_view 100 = .ok (.getfield 245, 3) := by decide +kernel
theorem dX9_view_103 : decode cX9_view 103 = .ok (.goto 5, 3) := by decide +kernel
theorem dX9_view_106 : decode cX9_view 106 = .ok (.ldc 231, 2) := by decide +kernel
theorem dX9_view_108 : decode cX9_view 108 = .ok (.ireturn, 1) := by decide +kernel
theorem dX9_view_109 : decode cX9_view 109 = .ok (.aload 4, 2) := by decide +kernel
theorem dX9_view_111 : decode cX9_view 111 = .ok (.getfield 246, 3) := by decide +kernel
theorem dX9_view_114 : decode cX9_view 114 = .ok (.ireturn, 1) := by decide +kernel
theorem dX9_view_115 : decode cX9_view 115 = .ok (.aload 4, 2) := by decide +kernel
theorem dX9_view_117 : decode cX9_view 117 = .ok (.getfield 247, 3) := by decide +kernel
theorem dX9_view_120 : decode cX9_view 120 = .ok (.ireturn, 1) := by decide +kernel
theorem dX9_view_121 : decode cX9_view 121 = .ok (.aload 4, 2) := by decide +kernel
theorem dX9_view_123 : decode cX9_view 123 = .ok (.getfield 161, 3) := by decide +kernel
theorem dX9_view_126 : decode cX9_view 126 = .ok (.ifCond .eq 7, 3) := by decide +kernel
theorem dX9_view_129 : decode cX9_view 129 = .ok (.iconst 1, 1) := by decide +kernel
theorem dX9_view_130 : decode cX9_view 130 = .ok (.goto 4, 3) := by decide +kernel
theorem dX9_view_133 : decode cX9_view 133 = .ok (.iconst 0, 1) := by decide +kernel
theorem dX9_view_134 : decode cX9_view 134 = .ok (.ireturn, 1) := by decide +kernel
theorem dX9_view_135 : decode cX9_view 135 = .ok (.aload 4, 2) := by decide +kernel
theorem dX9_view_137 : decode cX9_view 137 = .ok (.getfield 161, 3) := by decide +kernel
theorem dX9_view_140 : decode cX9_view 140 = .ok (.ifCond .eq 8, 3) := by decide +kernel
theorem dX9_view_143 : decode cX9_view 143 = .ok (.ldc 231, 2) := by decide +kernel
theorem dX9_view_145 : decode cX9_view 145 = .ok (.goto 8, 3) := by decide +kernel
theorem dX9_view_148 : decode cX9_view 148 = .ok (.aload 4, 2) := by decide +kernel
theorem dX9_view_150 : decode cX9_view 150 = .ok (.getfield 248, 3) := by decide +kernel
theorem dX9_view_153 : decode cX9_view 153 = .ok (.ireturn, 1) := by decide +kernel
theorem dX9_view_154 : decode cX9_view 154 = .ok (.aload_n 3, 1) := by decide +kernel
theorem dX9_view_155 : decode cX9_view 155 = .ok (.aload 4, 2) := by decide +kernel
theorem dX9_view_157 : decode cX9_view 157 = .ok (.invokevirtual 251, 3) := by decide +kernel
theorem dX9_view_160 : decode cX9_view 160 = .ok (.ireturn, 1) := by decide +kernel
theorem dX9_view_161 : decode cX9_view 161 = .ok (.aload 4, 2) := by decide +kernel
theorem dX9_view_163 : decode cX9_view 163 = .ok (.getfield 254, 3) := by decide +kernel
theorem dX9_view_166 : decode cX9_view 166 = .ok (.ireturn, 1) := by decide +kernel
theorem dX9_view_167 : decode cX9_view 167 = .ok (.aload_n 3, 1) := by decide +kernel
theorem dX9_view_168 : decode cX9_view 168 = .ok (.aload 4, 2) := by decide +kernel
theorem dX9_view_170 : decode cX9_view 170 = .ok (.invokevirtual 257, 3) := by decide +kernel
theorem dX9_view_173 : decode cX9_view 173 = .ok (.ireturn, 1) := by decide +kernel
theorem dX9_view_174 : decode cX9_view 174 = .ok (.aload 4, 2) := by decide +kernel
theorem dX9_view_176 : decode cX9_view 176 = .ok (.getfield 260, 3) := by decide +kernel
theorem dX9_view_179 : decode cX9_view 179 = .ok (.ireturn, 1) := by decide +kernel
theorem dX9_kept_0 : decode cX9_kept 0 = .ok (.aload_n 0, 1) := by decide +kernel
theorem dX9_kept_1 : decode cX9_kept 1 = .ok (.getfield 19, 3) := by decide +kernel
theorem dX9_kept_4 : decode cX9_kept 4 = .ok (.getfield 49, 3) := by decide +kernel
theorem dX9_kept_7 : decode cX9_kept 7 = .ok (.iload_n 1, 1) := by decide +kernel
theorem dX9_kept_8 : decode cX9_kept 8 = .ok (.invokevirtual 116, 3) := by decide +kernel
theorem dX9_kept_11 : decode cX9_kept 11 = .ok (.astore_n 2, 1) := by decide +kernel
theorem dX9_kept_12 : decode cX9_kept 12 = .ok (.aload_n 2, 1) := by decide +kernel
theorem dX9_kept_13 : decode cX9_kept 13 = .ok (.ifnonnull 6, 3) := by decide +kernel
theorem dX9_kept_16 : decode cX9_kept 16 = .ok (.ldc 48, 2) := by decide +kernel
theorem dX9_kept_18 : decode cX9_kept 18 = .ok (.ireturn, 1) := by decide +kernel
theorem dX9_kept_19 : decode cX9_kept 19 = .ok (.aload_n 2, 1) := by decide +kernel
theorem dX9_kept_20 : decode cX9_kept 20 = .ok (.getfield 161, 3) := by decide +kernel
theorem dX9_kept_23 : decode cX9_kept 23 = .ok (.ifCond .eq 6, 3) := by decide +kernel
theorem dX9_kept_26 : decode cX9_kept 26 = .ok (.ldc 124, 2) := by decide +kernel
theorem dX9_kept_28 : decode cX9_kept 28 = .ok (.ireturn, 1) := by decide +kernel
theorem dX9_kept_29 : decode cX9_kept 29 = .ok (.aload_n 0, 1) := by decide +kernel
theorem dX9_kept_30 : decode cX9_kept 30 = .ok (.getfield 33, 3) := by decide +kernel
theorem dX9_kept_33 : decode cX9_kept 33 = .ok (.aload_n 0, 1) := by decide +kernel
theorem dX9_kept_34 : decode cX9_kept 34 = .ok (.getfield 19, 3) := by decide +kernel
theorem dX9_kept_37 : decode cX9_kept 37 = .ok (.getfield 49, 3) := by decide +kernel
theorem dX9_kept_40 : decode cX9_kept 40 = .ok (.iload_n 1, 1) := by decide +kernel
theorem dX9_kept_41 : decode cX9_kept 41 = .ok (.aload_n 2, 1) := by decide +kernel
theorem dX9_kept_42 : decode cX9_kept 42 = .ok (.getfield 248, 3) := by decide +kernel
theorem dX9_kept_45 : decode cX9_kept 45 = .ok (.invokevirtual 263, 3) := by decide +kernel
theorem dX9_kept_48 : decode cX9_kept 48 = .ok (.ireturn, 1) := by decide +kernel
theorem dX9_ask_0 : decode cX9_ask 0 = .ok (.aload_n 0, 1) := by decide +kernel
theorem dX9_ask_1 : decode cX9_ask 1 = .ok (.getfield 19, 3) := by decide +kernel
theorem dX9_ask_4 : decode cX9_ask 4 = .ok (.getfield 49, 3) := by decide +kernel
theorem dX9_ask_7 : decode cX9_ask 7 = .ok (.astore 4, 2) := by decide +kernel
theorem dX9_ask_9 : decode cX9_ask 9 = .ok (.aload 4, 2) := by decide +kernel
theorem dX9_ask_11 : decode cX9_ask 11 = .ok (.iload_n 1, 1) := by decide +kernel
theorem dX9_ask_12 : decode cX9_ask 12 = .ok (.invokevirtual 116, 3) := by decide +kernel
theorem dX9_ask_15 : decode cX9_ask 15 = .ok (.ifnull 28, 3) := by decide +kernel
theorem dX9_ask_18 : decode cX9_ask 18 = .ok (.iload_n 2, 1) := by decide +kernel
theorem dX9_ask_19 : decode cX9_ask 19 = .ok (.ifCond .lt 24, 3) := by decide +kernel
theorem dX9_ask_22 : decode cX9_ask 22 = .ok (.iload_n 2, 1) := by decide +kernel
theorem dX9_ask_23 : decode cX9_ask 23 = .ok (.aload 4, 2) := by decide +kernel
theorem dX9_ask_25 : decode cX9_ask 25 = .ok (.getfield 52, 3) := by decide +kernel
theorem dX9_ask_28 : decode cX9_ask 28 = .ok (.getfield 183, 3) := by decide +kernel
theorem dX9_ask_31 : decode cX9_ask 31 = .ok (.if_icmp .gt 12, 3) := by decide +kernel
theorem dX9_ask_34 : decode cX9_ask 34 = .ok (.iload_n 3, 1) := by decide +kernel
theorem dX9_ask_35 : decode cX9_ask 35 = .ok (.ifCond .eq 11, 3) := by decide +kernel
theorem dX9_ask_38 : decode cX9_ask 38 = .ok (.iload_n 3, 1) := by decide +kernel
theorem dX9_ask_39 : decode cX9_ask 39 = .ok (.iconst 1, 1) := by decide +kernel
theorem dX9_ask_40 : decode cX9_ask 40 = .ok (.if_icmp .eq 6, 3) := by decide +kernel
theorem dX9_ask_43 : decode cX9_ask 43 = .ok (.ldc 48, 2) := by decide +kernel
theorem dX9_ask_45 : decode cX9_ask 45 = .ok (.ireturn, 1) := by decide +kernel
theorem dX9_ask_46 : decode cX9_ask 46 = .ok (.iload_n 3, 1) := by decide +kernel
theorem dX9_ask_47 : decode cX9_ask 47 = .ok (.ifCond .ne 17, 3) := by decide +kernel
theorem dX9_ask_50 : decode cX9_ask 50 = .ok (.aload_n 0, 1) := by decide +kernel
theorem dX9_ask_51 : decode cX9_ask 51 = .ok (.getfield 33, 3) := by decide +kernel
theorem dX9_ask_54 : decode cX9_ask 54 = .ok (.aload 4, 2) := by decide +kernel
theorem dX9_ask_56 : decode cX9_ask 56 = .ok (.iload_n 1, 1) := by decide +kernel
theorem dX9_ask_57 : decode cX9_ask 57 = .ok (.iload_n 2, 1) := by decide +kernel
theorem dX9_ask_58 : decode cX9_ask 58 = .ok (.invokevirtual 263, 3) := by decide +kernel
theorem dX9_ask_61 : decode cX9_ask 61 = .ok (.goto 14, 3) := by decide +kernel
theorem dX9_ask_64 : decode cX9_ask 64 = .ok (.aload_n 0, 1) := by decide +kernel
theorem dX9_ask_65 : decode cX9_ask 65 = .ok (.getfield 33, 3) := by decide +kernel
theorem dX9_ask_68 : decode cX9_ask 68 = .ok (.aload 4, 2) := by decide +kernel
theorem dX9_ask_70 : decode cX9_ask 70 = .ok (.iload_n 1, 1) := by decide +kernel
theorem dX9_ask_71 : decode cX9_ask 71 = .ok (.iload_n 2, 1) := by decide +kernel
theorem dX9_ask_72 : decode cX9_ask 72 = .ok (.invokevirtual 267, 3) := by decide +kernel
theorem dX9_ask_75 : decode cX9_ask 75 = .ok (.ireturn, 1) := by decide +kernel
theorem dX9_ruin_0 : decode cX9_ruin 0 = .ok (.aload_n 0, 1) := by decide +kernel
theorem dX9_ruin_1 : decode cX9_ruin 1 = .ok (.getfield 19, 3) := by decide +kernel
theorem dX9_ruin_4 : decode cX9_ruin 4 = .ok (.getfield 49, 3) := by decide +kernel
theorem dX9_ruin_7 : decode cX9_ruin 7 = .ok (.astore_n 2, 1) := by decide +kernel
theorem dX9_ruin_8 : decode cX9_ruin 8 = .ok (.aload_n 2, 1) := by decide +kernel
theorem dX9_ruin_9 : decode cX9_ruin 9 = .ok (.iload_n 1, 1) := by decide +kernel
theorem dX9_ruin_10 : decode cX9_ruin 10 = .ok (.invokevirtual 116, 3) := by decide +kernel
theorem dX9_ruin_13 : decode cX9_ruin 13 = .ok (.astore_n 3, 1) := by decide +kernel
theorem dX9_ruin_14 : decode cX9_ruin 14 = .ok (.aload_n 3, 1) := by decide +kernel
theorem dX9_ruin_15 : decode cX9_ruin 15 = .ok (.ifnonnull 6, 3) := by decide +kernel
theorem dX9_ruin_18 : decode cX9_ruin 18 = .ok (.ldc 48, 2) := by decide +kernel
theorem dX9_ruin_20 : decode cX9_ruin 20 = .ok (.ireturn, 1) := by decide +kernel
theorem dX9_ruin_21 : decode cX9_ruin 21 = .ok (.aload_n 3, 1) := by decide +kernel
theorem dX9_ruin_22 : decode cX9_ruin 22 = .ok (.getfield 161, 3) := by decide +kernel
theorem dX9_ruin_25 : decode cX9_ruin 25 = .ok (.ifCond .eq 6, 3) := by decide +kernel
theorem dX9_ruin_28 : decode cX9_ruin 28 = .ok (.ldc 124, 2) := by decide +kernel
theorem dX9_ruin_30 : decode cX9_ruin 30 = .ok (.ireturn, 1) := by decide +kernel
theorem dX9_ruin_31 : decode cX9_ruin 31 = .ok (.aload_n 2, 1) := by decide +kernel
theorem dX9_ruin_32 : decode cX9_ruin 32 = .ok (.aload_n 3, 1) := by decide +kernel
theorem dX9_ruin_33 : decode cX9_ruin 33 = .ok (.invokevirtual 270, 3) := by decide +kernel
theorem dX9_ruin_36 : decode cX9_ruin 36 = .ok (.istore 4, 2) := by decide +kernel
theorem dX9_ruin_38 : decode cX9_ruin 38 = .ok (.aload_n 2, 1) := by decide +kernel
theorem dX9_ruin_39 : decode cX9_ruin 39 = .ok (.iconst 2, 1) := by decide +kernel
theorem dX9_ruin_40 : decode cX9_ruin 40 = .ok (.invokevirtual 143, 3) := by decide +kernel
theorem dX9_ruin_43 : decode cX9_ruin 43 = .ok (.istore 5, 2) := by decide +kernel
theorem dX9_ruin_45 : decode cX9_ruin 45 = .ok (.aload_n 3, 1) := by decide +kernel
theorem dX9_ruin_46 : decode cX9_ruin 46 = .ok (.getfield 254, 3) := by decide +kernel
theorem dX9_ruin_49 : decode cX9_ruin 49 = .ok (.istore 6, 2) := by decide +kernel
theorem dX9_ruin_51 : decode cX9_ruin 51 = .ok (.iconst 1, 1) := by decide +kernel
theorem dX9_ruin_52 : decode cX9_ruin 52 = .ok (.istore 7, 2) := by decide +kernel
theorem dX9_ruin_54 : decode cX9_ruin 54 = .ok (.iload 7, 2) := by decide +kernel
theorem dX9_ruin_56 : decode cX9_ruin 56 = .ok (.sipush 1000, 3) := by decide +kernel
theorem dX9_ruin_59 : decode cX9_ruin 59 = .ok (.if_icmp .gt 26, 3) := by decide +kernel
theorem dX9_ruin_62 : decode cX9_ruin 62 = .ok (.iload 6, 2) := by decide +kernel
theorem dX9_ruin_64 : decode cX9_ruin 64 = .ok (.iload 4, 2) := by decide +kernel
theorem dX9_ruin_66 : decode cX9_ruin 66 = .ok (.iadd, 1) := by decide +kernel
theorem dX9_ruin_67 : decode cX9_ruin 67 = .ok (.istore 6, 2) := by decide +kernel
theorem dX9_ruin_69 : decode cX9_ruin 69 = .ok (.iload 6, 2) := by decide +kernel
theorem dX9_ruin_71 : decode cX9_ruin 71 = .ok (.iload 5, 2) := by decide +kernel
theorem dX9_ruin_73 : decode cX9_ruin 73 = .ok (.if_icmp .le 6, 3) := by decide +kernel
theorem dX9_ruin_76 : decode cX9_ruin 76 = .ok (.iload 7, 2) := by decide +kernel
theorem dX9_ruin_78 : decode cX9_ruin 78 = .ok (.ireturn, 1) := by decide +kernel
theorem dX9_ruin_79 : decode cX9_ruin 79 = .ok (.iinc 7 1, 3) := by decide +kernel
theorem dX9_ruin_82 : decode cX9_ruin 82 = .ok (.goto (-28), 3) := by decide +kernel
theorem dX9_ruin_85 : decode cX9_ruin 85 = .ok (.ldc 231, 2) := by decide +kernel
theorem dX9_ruin_87 : decode cX9_ruin 87 = .ok (.ireturn, 1) := by decide +kernel
theorem dX9_settled_0 : decode cX9_settled 0 = .ok (.iconst 5, 1) := by decide +kernel
theorem dX9_settled_1 : decode cX9_settled 1 = .ok (.iload_n 1, 1) := by decide +kernel
theorem dX9_settled_2 : decode cX9_settled 2 = .ok (.invokestatic 140, 3) := by decide +kernel
theorem dX9_settled_5 : decode cX9_settled 5 = .ok (.ifCond .eq 15, 3) := by decide +kernel
theorem dX9_settled_8 : decode cX9_settled 8 = .ok (.iload_n 2, 1) := by decide +kernel
theorem dX9_settled_9 : decode cX9_settled 9 = .ok (.iconst 1, 1) := by decide +kernel
theorem dX9_settled_10 : decode cX9_settled 10 = .ok (.if_icmp .lt 10, 3) := by decide +kernel
theorem dX9_settled_13 : decode cX9_settled 13 = .ok (.iload_n 2, 1) := by decide +kernel
theorem dX9_settled_14 : decode cX9_settled 14 = .ok (.sipush 9999, 3) := by decide +kernel
theorem dX9_settled_17 : decode cX9_settled 17 = .ok (.if_icmp .le 6, 3) := by decide +kernel
theorem dX9_settled_20 : decode cX9_settled 20 = .ok (.ldc 48, 2) := by decide +kernel
theorem dX9_settled_22 : decode cX9_settled 22 = .ok (.ireturn, 1) := by decide +kernel
theorem dX9_settled_23 : decode cX9_settled 23 = .ok (.aload_n 0, 1) := by decide +kernel
theorem dX9_settled_24 : decode cX9_settled 24 = .ok (.getfield 40, 3) := by decide +kernel
theorem dX9_settled_27 : decode cX9_settled 27 = .ok (.aload_n 0, 1) := by decide +kernel
theorem dX9_settled_28 : decode cX9_settled 28 = .ok (.getfield 19, 3) := by decide +kernel
theorem dX9_settled_31 : decode cX9_settled 31 = .ok (.getfield 49, 3) := by decide +kernel
theorem dX9_settled_34 : decode cX9_settled 34 = .ok (.invokevirtual 273, 3) := by decide +kernel
theorem dX9_settled_37 : decode cX9_settled 37 = .ok (.aload_n 0, 1) := by decide +kernel
theorem dX9_settled_38 : decode cX9_settled 38 = .ok (.getfield 40, 3) := by decide +kernel
theorem dX9_settled_41 : decode cX9_settled 41 = .ok (.iload_n 2, 1) := by decide +kernel
theorem dX9_settled_42 : decode cX9_settled 42 = .ok (.putfield 150, 3) := by decide +kernel
theorem dX9_settled_45 : decode cX9_settled 45 = .ok (.aload_n 0, 1) := by decide +kernel
theorem dX9_settled_46 : decode cX9_settled 46 = .ok (.getfield 40, 3) := by decide +kernel
theorem dX9_settled_49 : decode cX9_settled 49 = .ok (.iconst 5, 1) := by decide +kernel
theorem dX9_settled_50 : decode cX9_settled 50 = .ok (.iload_n 1, 1) := by decide +kernel
theorem dX9_settled_51 : decode cX9_settled 51 = .ok (.invokevirtual 146, 3) := by decide +kernel
theorem dX9_settled_54 : decode cX9_settled 54 = .ok (.aload_n 0, 1) := by decide +kernel
theorem dX9_settled_55 : decode cX9_settled 55 = .ok (.getfield 40, 3) := by decide +kernel
theorem dX9_settled_58 : decode cX9_settled 58 = .ok (.invokevirtual 168, 3) := by decide +kernel
theorem dX9_settled_61 : decode cX9_settled 61 = .ok (.pop, 1) := by decide +kernel
theorem dX9_settled_62 : decode cX9_settled 62 = .ok (.aload_n 0, 1) := by decide +kernel
theorem dX9_settled_63 : decode cX9_settled 63 = .ok (.getfield 40, 3) := by decide +kernel
theorem dX9_settled_66 : decode cX9_settled 66 = .ok (.iconst 4, 1) := by decide +kernel
theorem dX9_settled_67 : decode cX9_settled 67 = .ok (.invokevirtual 131, 3) := by decide +kernel
theorem dX9_settled_70 : decode cX9_settled 70 = .ok (.ireturn, 1) := by decide +kernel
theorem dX9_needed_0 : decode cX9_needed 0 = .ok (.aload_n 0, 1) := by decide +kernel
theorem dX9_needed_1 : decode cX9_needed 1 = .ok (.getfield 19, 3) := by decide +kernel
theorem dX9_needed_4 : decode cX9_needed 4 = .ok (.getfield 49, 3) := by decide +kernel
theorem dX9_needed_7 : decode cX9_needed 7 = .ok (.invokevirtual 277, 3) := by decide +kernel
theorem dX9_needed_10 : decode cX9_needed 10 = .ok (.ireturn, 1) := by decide +kernel
theorem dX9_since_0 : decode cX9_since 0 = .ok (.aload_n 0, 1) := by decide +kernel
theorem dX9_since_1 : decode cX9_since 1 = .ok (.getfield 19, 3) := by decide +kernel
theorem dX9_since_4 : decode cX9_since 4 = .ok (.getfield 49, 3) := by decide +kernel
theorem dX9_since_7 : decode cX9_since 7 = .ok (.iload_n 1, 1) := by decide +kernel
theorem dX9_since_8 : decode cX9_since 8 = .ok (.invokevirtual 116, 3) := by decide +kernel
theorem dX9_since_11 : decode cX9_since 11 = .ok (.ifnonnull 6, 3) := by decide +kernel
theorem dX9_since_14 : decode cX9_since 14 = .ok (.ldc 48, 2) := by decide +kernel
theorem dX9_since_16 : decode cX9_since 16 = .ok (.ireturn, 1) := by decide +kernel
theorem dX9_since_17 : decode cX9_since 17 = .ok (.aload_n 0, 1) := by decide +kernel
theorem dX9_since_18 : decode cX9_since 18 = .ok (.getfield 33, 3) := by decide +kernel
theorem dX9_since_21 : decode cX9_since 21 = .ok (.aload_n 0, 1) := by decide +kernel
theorem dX9_since_22 : decode cX9_since 22 = .ok (.getfield 19, 3) := by decide +kernel
theorem dX9_since_25 : decode cX9_since 25 = .ok (.getfield 49, 3) := by decide +kernel
theorem dX9_since_28 : decode cX9_since 28 = .ok (.iload_n 1, 1) := by decide +kernel
theorem dX9_since_29 : decode cX9_since 29 = .ok (.invokevirtual 280, 3) := by decide +kernel
theorem dX9_since_32 : decode cX9_since 32 = .ok (.ireturn, 1) := by decide +kernel
theorem dX9_isCell_0 : decode cX9_isCell 0 = .ok (.iload_n 0, 1) := by decide +kernel
theorem dX9_isCell_1 : decode cX9_isCell 1 = .ok (.ifCond .lt 22, 3) := by decide +kernel
theorem dX9_isCell_4 : decode cX9_isCell 4 = .ok (.iload_n 0, 1) := by decide +kernel
theorem dX9_isCell_5 : decode cX9_isCell 5 = .ok (.iconst 2, 1) := by decide +kernel
theorem dX9_isCell_6 : decode cX9_isCell 6 = .ok (.if_icmp .ge 17, 3) := by decide +kernel
theorem dX9_isCell_9 : decode cX9_isCell 9 = .ok (.iload_n 1, 1) := by decide +kernel
theorem dX9_isCell_10 : decode cX9_isCell 10 = .ok (.ifCond .lt 13, 3) := by decide +kernel
theorem dX9_isCell_13 : decode cX9_isCell 13 = .ok (.iload_n 1, 1) := by decide +kernel
theorem dX9_isCell_14 : decode cX9_isCell 14 = .ok (.bipush 12, 2) := by decide +kernel
theorem dX9_isCell_16 : decode cX9_isCell 16 = .ok (.if_icmp .ge 7, 3) := by decide +kernel
theorem dX9_isCell_19 : decode cX9_isCell 19 = .ok (.iconst 1, 1) := by decide +kernel
theorem dX9_isCell_20 : decode cX9_isCell 20 = .ok (.goto 4, 3) := by decide +kernel
theorem dX9_isCell_23 : decode cX9_isCell 23 = .ok (.iconst 0, 1) := by decide +kernel
theorem dX9_isCell_24 : decode cX9_isCell 24 = .ok (.ireturn, 1) := by decide +kernel
theorem dX9_cellOf_0 : decode cX9_cellOf 0 = .ok (.iload_n 0, 1) := by decide +kernel
theorem dX9_cellOf_1 : decode cX9_cellOf 1 = .ok (.bipush 12, 2) := by decide +kernel
theorem dX9_cellOf_3 : decode cX9_cellOf 3 = .ok (.imul, 1) := by decide +kernel
theorem dX9_cellOf_4 : decode cX9_cellOf 4 = .ok (.iload_n 1, 1) := by decide +kernel
theorem dX9_cellOf_5 : decode cX9_cellOf 5 = .ok (.iadd, 1) := by decide +kernel
theorem dX9_cellOf_6 : decode cX9_cellOf 6 = .ok (.ireturn, 1) := by decide +kernel
theorem dX9_isSetting_0 : decode cX9_isSetting 0 = .ok (.iload_n 0, 1) := by decide +kernel
theorem dX9_isSetting_1 : decode cX9_isSetting 1 = .ok (.ifCond .lt 41, 3) := by decide +kernel
theorem dX9_isSetting_4 : decode cX9_isSetting 4 = .ok (.iload_n 0, 1) := by decide +kernel
theorem dX9_isSetting_5 : decode cX9_isSetting 5 = .ok (.getstatic 284, 3) := by decide +kernel
theorem dX9_isSetting_8 : decode cX9_isSetting 8 = .ok (.arraylength, 1) := by decide +kernel
theorem dX9_isSetting_9 : decode cX9_isSetting 9 = .ok (.if_icmp .ge 33, 3) := by decide +kernel
theorem dX9_isSetting_12 : decode cX9_isSetting 12 = .ok (.iload_n 0, 1) := by decide +kernel
theorem dX9_isSetting_13 : decode cX9_isSetting 13 = .ok (.getstatic 288, 3) := by decide +kernel
theorem dX9_isSetting_16 : decode cX9_isSetting 16 = .ok (.arraylength, 1) := by decide +kernel
theorem dX9_isSetting_17 : decode cX9_isSetting 17 = .ok (.if_icmp .ge 25, 3) := by decide +kernel
theorem dX9_isSetting_20 : decode cX9_isSetting 20 = .ok (.iload_n 1, 1) := by decide +kernel
theorem dX9_isSetting_21 : decode cX9_isSetting 21 = .ok (.getstatic 284, 3) := by decide +kernel
theorem dX9_isSetting_24 : decode cX9_isSetting 24 = .ok (.iload_n 0, 1) := by decide +kernel
theorem dX9_isSetting_25 : decode cX9_isSetting 25 = .ok (.iaload, 1) := by decide +kernel
theorem dX9_isSetting_26 : decode cX9_isSetting 26 = .ok (.if_icmp .lt 16, 3) := by decide +kernel
theorem dX9_isSetting_29 : decode cX9_isSetting 29 = .ok (.iload_n 1, 1) := by decide +kernel
theorem dX9_isSetting_30 : decode cX9_isSetting 30 = .ok (.getstatic 288, 3) := by decide +kernel
theorem dX9_isSetting_33 : decode cX9_isSetting 33 = .ok (.iload_n 0, 1) := by decide +kernel
theorem dX9_isSetting_34 : decode cX9_isSetting 34 = .ok (.iaload, 1) := by decide +kernel
theorem dX9_isSetting_35 : decode cX9_isSetting 35 = .ok (.if_icmp .gt 7, 3) := by decide +kernel
theorem dX9_isSetting_38 : decode cX9_isSetting 38 = .ok (.iconst 1, 1) := by decide +kernel
theorem dX9_isSetting_39 : decode cX9_isSetting 39 = .ok (.goto 4, 3) := by decide +kernel
theorem dX9_isSetting_42 : decode cX9_isSetting 42 = .ok (.iconst 0, 1) := by decide +kernel
theorem dX9_isSetting_43 : decode cX9_isSetting 43 = .ok (.ireturn, 1) := by decide +kernel
theorem dX9_amount_0 : decode cX9_amount 0 = .ok (.iload_n 0, 1) := by decide +kernel
theorem dX9_amount_1 : decode cX9_amount 1 = .ok (.iconst (-1), 1) := by decide +kernel
theorem dX9_amount_2 : decode cX9_amount 2 = .ok (.if_icmp .ne 7, 3) := by decide +kernel
theorem dX9_amount_5 : decode cX9_amount 5 = .ok (.iconst 0, 1) := by decide +kernel
theorem dX9_amount_6 : decode cX9_amount 6 = .ok (.goto 4, 3) := by decide +kernel
theorem dX9_amount_9 : decode cX9_amount 9 = .ok (.iload_n 0, 1) := by decide +kernel
theorem dX9_amount_10 : decode cX9_amount 10 = .ok (.ireturn, 1) := by decide +kernel
theorem dX9_presence_0 : decode cX9_presence 0 = .ok (.iload_n 0, 1) := by decide +kernel
theorem dX9_presence_1 : decode cX9_presence 1 = .ok (.iconst (-1), 1) := by decide +kernel
theorem dX9_presence_2 : decode cX9_presence 2 = .ok (.if_icmp .ne 7, 3) := by decide +kernel
theorem dX9_presence_5 : decode cX9_presence 5 = .ok (.iconst 0, 1) := by decide +kernel
theorem dX9_presence_6 : decode cX9_presence 6 = .ok (.goto 4, 3) := by decide +kernel
theorem dX9_presence_9 : decode cX9_presence 9 = .ok (.iconst 1, 1) := by decide +kernel
theorem dX9_presence_10 : decode cX9_presence 10 = .ok (.ireturn, 1) := by decide +kernel
theorem dX10_init_0 : decode cX10_init 0 = .ok (.aload_n 0, 1) := by decide +kernel
theorem dX10_init_1 : decode cX10_init 1 = .ok (.invokespecial 1, 3) := by decide +kernel
theorem dX10_init_4 : decode cX10_init 4 = .ok (.aload_n 0, 1) := by decide +kernel
theorem dX10_init_5 : decode cX10_init 5 = .ok (.sipush 2063, 3) := by decide +kernel
theorem dX10_init_8 : decode cX10_init 8 = .ok (.newarray .int, 2) := by decide +kernel
theorem dX10_init_10 : decode cX10_init 10 = .ok (.putfield 7, 3) := by decide +kernel
theorem dX10_init_13 : decode cX10_init 13 = .ok (.aload_n 0, 1) := by decide +kernel
theorem dX10_init_14 : decode cX10_init 14 = .ok (.sipush 10315, 3) := by decide +kernel
theorem dX10_init_17 : decode cX10_init 17 = .ok (.newarray .int, 2) := by decide +kernel
theorem dX10_init_19 : decode cX10_init 19 = .ok (.putfield 13, 3) := by decide +kernel
theorem dX10_init_22 : decode cX10_init 22 = .ok (.aload_n 0, 1) := by decide +kernel
theorem dX10_init_23 : decode cX10_init 23 = .ok (.bipush 40, 2) := by decide +kernel
theorem dX10_init_25 : decode cX10_init 25 = .ok (.newarray .int, 2) := by decide +kernel
theorem dX10_init_27 : decode cX10_init 27 = .ok (.putfield 16, 3) := by decide +kernel
theorem dX10_init_30 : decode cX10_init 30 = .ok (.aload_n 0, 1) := by decide +kernel
theorem dX10_init_31 : decode cX10_init 31 = .ok (.bipush 24, 2) := by decide +kernel
theorem dX10_init_33 : decode cX10_init 33 = .ok (.newarray .int, 2) := by decide +kernel
theorem dX10_init_35 : decode cX10_init 35 = .ok (.putfield 19, 3) := by decide +kernel
theorem dX10_init_38 : decode cX10_init 38 = .ok (.aload_n 0, 1) := by decide +kernel
theorem dX10_init_39 : decode cX10_init 39 = .ok (.bipush 8, 2) := by decide +kernel
theorem dX10_init_41 : decode cX10_init 41 = .ok (.newarray .int, 2) := by decide +kernel
theorem dX10_init_43 : decode cX10_init 43 = .ok (.putfield 22, 3) := by decide +kernel
theorem dX10_init_46 : decode cX10_init 46 = .ok (.aload_n 0, 1) := by decide +kernel
theorem dX10_init_47 : decode cX10_init 47 = .ok (.bipush 8, 2) := by decide +kernel
theorem dX10_init_49 : decode cX10_init 49 = .ok (.newarray .int, 2) := by decide +kernel
theorem dX10_init_51 : decode cX10_init 51 = .ok (.putfield 25, 3) := by decide +kernel
theorem dX10_init_54 : decode cX10_init 54 = .ok (.aload_n 0, 1) := by decide +kernel
theorem dX10_init_55 : decode cX10_init 55 = .ok (.bipush 8, 2) := by decide +kernel
theorem dX10_init_57 : decode cX10_init 57 = .ok (.newarray .int, 2) := by decide +kernel
theorem dX10_init_59 : decode cX10_init 59 = .ok (.putfield 28, 3) := by decide +kernel
theorem dX10_init_62 : decode cX10_init 62 = .ok (.aload_n 0, 1) := by decide +kernel
theorem dX10_init_63 : decode cX10_init 63 = .ok (.getfield 7, 3) := by decide +kernel
theorem dX10_init_66 : decode cX10_init 66 = .ok (.bipush 9, 2) := by decide +kernel
theorem dX10_init_68 : decode cX10_init 68 = .ok (.iconst 1, 1) := by decide +kernel
theorem dX10_init_69 : decode cX10_init 69 = .ok (.iastore, 1) := by decide +kernel
theorem dX10_init_70 : decode cX10_init 70 = .ok (.aload_n 0, 1) := by decide +kernel
theorem dX10_init_71 : decode cX10_init 71 = .ok (.getfield 7, 3) := by decide +kernel
theorem dX10_init_74 : decode cX10_init 74 = .ok (.bipush 10, 2) := by decide +kernel
theorem dX10_init_76 : decode cX10_init 76 = .ok (.iconst 2, 1) := by decide +kernel
theorem dX10_init_77 : decode cX10_init 77 = .ok (.iastore, 1) := by decide +kernel
theorem dX10_init_78 : decode cX10_init 78 = .ok (.aload_n 0, 1) := by decide +kernel
theorem dX10_init_79 : decode cX10_init 79 = .ok (.getfield 7, 3) := by decide +kernel
theorem dX10_init_82 : decode cX10_init 82 = .ok (.bipush 11, 2) := by decide +kernel
theorem dX10_init_84 : decode cX10_init 84 = .ok (.bipush 30, 2) := by decide +kernel
theorem dX10_init_86 : decode cX10_init 86 = .ok (.iastore, 1) := by decide +kernel
theorem dX10_init_87 : decode cX10_init 87 = .ok (.aload_n 0, 1) := by decide +kernel
theorem dX10_init_88 : decode cX10_init 88 = .ok (.getfield 7, 3) := by decide +kernel
theorem dX10_init_91 : decode cX10_init 91 = .ok (.bipush 12, 2) := by decide +kernel
theorem dX10_init_93 : decode cX10_init 93 = .ok (.iconst 5, 1) := by decide +kernel
theorem dX10_init_94 : decode cX10_init 94 = .ok (.iastore, 1) := by decide +kernel
theorem dX10_init_95 : decode cX10_init 95 = .ok (.return_, 1) := by decide +kernel
theorem dX10_in_0 : decode cX10_in 0 = .ok (.iload_n 0, 1) := by decide +kernel
theorem dX10_in_1 : decode cX10_in 1 = .ok (.iload_n 1, 1) := by decide +kernel
theorem dX10_in_2 : decode cX10_in 2 = .ok (.if_icmp .lt 12, 3) := by decide +kernel
theorem dX10_in_5 : decode cX10_in 5 = .ok (.iload_n 0, 1) := by decide +kernel
theorem dX10_in_6 : decode cX10_in 6 = .ok (.iload_n 2, 1) := by decide +kernel
theorem dX10_in_7 : decode cX10_in 7 = .ok (.if_icmp .gt 7, 3) := by decide +kernel
theorem dX10_in_10 : decode cX10_in 10 = .ok (.iconst 1, 1) := by decide +kernel
theorem dX10_in_11 : decode cX10_in 11 = .ok (.goto 4, 3) := by decide +kernel
theorem dX10_in_14 : decode cX10_in 14 = .ok (.iconst 0, 1) := by decide +kernel
theorem dX10_in_15 : decode cX10_in 15 = .ok (.ireturn, 1) := by decide +kernel
theorem dX10_has_0 : decode cX10_has 0 = .ok (.iload_n 0, 1) := by decide +kernel
theorem dX10_has_1 : decode cX10_has 1 = .ok (.iload_n 1, 1) := by decide +kernel
theorem dX10_has_2 : decode cX10_has 2 = .ok (.ishr, 1) := by decide +kernel
theorem dX10_has_3 : decode cX10_has 3 = .ok (.iconst 1, 1) := by decide +kernel
theorem dX10_has_4 : decode cX10_has 4 = .ok (.iand, 1) := by decide +kernel
theorem dX10_has_5 : decode cX10_has 5 = .ok (.iconst 1, 1) := by decide +kernel
theorem dX10_has_6 : decode cX10_has 6 = .ok (.if_icmp .ne 7, 3) := by decide +kernel
theorem dX10_has_9 : decode cX10_has 9 = .ok (.iconst 1, 1) := by decide +kernel
theorem dX10_has_10 : decode cX10_has 10 = .ok (.goto 4, 3) := by decide +kernel
theorem dX10_has_13 : decode cX10_has 13 = .ok (.iconst 0, 1) := by decide +kernel
theorem dX10_has_14 : decode cX10_has 14 = .ok (.ireturn, 1) := by decide +kernel
theorem dX10_v_0 : decode cX10_v 0 = .ok (.sipush 615, 3) := by decide +kernel
theorem dX10_v_3 : decode cX10_v 3 = .ok (.bipush 9, 2) := by decide +kernel
theorem dX10_v_5 : decode cX10_v 5 = .ok (.iload_n 0, 1) := by decide +kernel
theorem dX10_v_6 : decode cX10_v 6 = .ok (.imul, 1) := by decide +kernel
theorem dX10_v_7 : decode cX10_v 7 = .ok (.iadd, 1) := by decide +kernel
theorem dX10_v_8 : decode cX10_v 8 = .ok (.iload_n 1, 1) := by decide +kernel
theorem dX10_v_9 : decode cX10_v 9 = .ok (.iadd, 1) := by decide +kernel
theorem dX10_v_10 : decode cX10_v 10 = .ok (.ireturn, 1) := by decide +kernel
theorem dX10_isView_0 : decode cX10_isView 0 = .ok (.iload_n 1, 1) := by decide +kernel
theorem dX10_isView_1 : decode cX10_isView 1 = .ok (.iconst 0, 1) := by decide +kernel
theorem dX10_isView_2 : decode cX10_isView 2 = .ok (.aload_n 0, 1) := by decide +kernel
theorem dX10_isView_3 : decode cX10_isView 3 = .ok (.getfield 7, 3) := by decide +kernel
theorem dX10_isView_6 : decode cX10_isView 6 = .ok (.iconst 1, 1) := by decide +kernel
theorem dX10_isView_7 : decode cX10_isView 7 = .ok (.iaload, 1) := by decide +kernel
theorem dX10_isView_8 : decode cX10_isView 8 = .ok (.iconst 1, 1) := by decide +kernel
theorem dX10_isView_9 : decode cX10_isView 9 = .ok (.isub, 1) := by decide +kernel
theorem dX10_isView_10 : decode cX10_isView 10 = .ok (.invokestatic 31, 3) := by decide +kernel
theorem dX10_isView_13 : decode cX10_isView 13 = .ok (.ifCond .eq 21, 3) := by decide +kernel
theorem dX10_isView_16 : decode cX10_isView 16 = .ok (.aload_n 0, 1) := by decide +kernel
theorem dX10_isView_17 : decode cX10_isView 17 = .ok (.getfield 7, 3) := by decide +kernel
theorem dX10_isView_20 : decode cX10_isView 20 = .ok (.iload_n 1, 1) := by decide +kernel
theorem dX10_isView_21 : decode cX10_isView 21 = .ok (.iconst 4, 1) := by decide +kernel
theorem dX10_isView_22 : decode cX10_isView 22 = .ok (.invokestatic 35, 3) := by decide +kernel
theorem dX10_isView_25 : decode cX10_isView 25 = .ok (.iaload, 1) := by decide +kernel
theorem dX10_isView_26 : decode cX10_isView 26 = .ok (.iconst 1, 1) := by decide +kernel
theorem dX10_isView_27 : decode cX10_isView 27 = .ok (.if_icmp .ne 7, 3) := by decide +kernel
theorem dX10_isView_30 : decode cX10_isView 30 = .ok (.iconst 1, 1) := by decide +kernel
theorem dX10_isView_31 : decode cX10_isView 31 = .ok (.goto 4, 3) := by decide +kernel
theorem dX10_isView_34 : decode cX10_isView 34 = .ok (.iconst 0, 1) := by decide +kernel
theorem dX10_isView_35 : decode cX10_isView 35 = .ok (.ireturn, 1) := by decide +kernel
theorem dX10_isBankrupt_0 : decode cX10_isBankrupt 0 = .ok (.aload_n 0, 1) := by decide +kernel
theorem dX10_isBankrupt_1 : decode cX10_isBankrupt 1 = .ok (.getfield 7, 3) := by decide +kernel
theorem dX10_isBankrupt_4 : decode cX10_isBankrupt 4 = .ok (.iload_n 1, 1) := by decide +kernel
theorem dX10_isBankrupt_5 : decode cX10_isBankrupt 5 = .ok (.iconst 5, 1) := by decide +kernel
theorem dX10_isBankrupt_6 : decode cX10_isBankrupt 6 = .ok (.invokestatic 35, 3) := by decide +kernel
theorem dX10_isBankrupt_9 : decode cX10_isBankrupt 9 = .ok (.iaload, 1) := by decide +kernel
theorem dX10_isBankrupt_10 : decode cX10_isBankrupt 10 = .ok (.iconst 1, 1) := by decide +kernel
theorem dX10_isBankrupt_11 : decode cX10_isBankrupt 11 = .ok (.if_icmp .ne 7, 3) := by decide +kernel
theorem dX10_isBankrupt_14 : decode cX10_isBankrupt 14 = .ok (.iconst 1, 1) := by decide +kernel
theorem dX10_isBankrupt_15 : decode cX10_isBankrupt 15 = .ok (.goto 4, 3) := by decide +kernel
theorem dX10_isBankrupt_18 : decode cX10_isBankrupt 18 = .ok (.iconst 0, 1) := by decide +kernel
theorem dX10_isBankrupt_19 : decode cX10_isBankrupt 19 = .ok (.ireturn, 1) := by decide +kernel
theorem dX10_notes_0 : decode cX10_notes 0 = .ok (.aload_n 0, 1) := by decide +kernel
theorem dX10_notes_1 : decode cX10_notes 1 = .ok (.getfield 39, 3) := by decide +kernel
theorem dX10_notes_4 : decode cX10_notes 4 = .ok (.iconst 5, 1) := by decide +kernel
theorem dX10_notes_5 : decode cX10_notes 5 = .ok (.if_icmp .ne 44, 3) := by decide +kernel
theorem dX10_notes_8 : decode cX10_notes 8 = .ok (.iconst 0, 1) := by decide +kernel
theorem dX10_notes_9 : decode cX10_notes 9 = .ok (.istore_n 1, 1) := by decide +kernel
theorem dX10_notes_10 : decode cX10_notes 10 = .ok (.iload_n 1, 1) := by decide +kernel
theorem dX10_notes_11 : decode cX10_notes 11 = .ok (.sipush 8252, 3) := by decide +kernel
theorem dX10_notes_14 : decode cX10_notes 14 = .ok (.if_icmp .ge 25, 3) := by decide +kernel
theorem dX10_notes_17 : decode cX10_notes 17 = .ok (.aload_n 0, 1) := by decide +kernel
theorem dX10_notes_18 : decode cX10_notes 18 = .ok (.getfield 13, 3) := by decide +kernel
theorem dX10_notes_21 : decode cX10_notes 21 = .ok (.iload_n 1, 1) := by decide +kernel
theorem dX10_notes_22 : decode cX10_notes 22 = .ok (.aload_n 0, 1) := by decide +kernel
theorem dX10_notes_23 : decode cX10_notes 23 = .ok (.getfield 13, 3) := by decide +kernel
theorem dX10_notes_26 : decode cX10_notes 26 = .ok (.iload_n 1, 1) := by decide +kernel
theorem dX10_notes_27 : decode cX10_notes 27 = .ok (.sipush 2063, 3) := by decide +kernel
theorem dX10_notes_30 : decode cX10_notes 30 = .ok (.iadd, 1) := by decide +kernel
theorem dX10_notes_31 : decode cX10_notes 31 = .ok (.iaload, 1) := by decide +kernel
theorem dX10_notes_32 : decode cX10_notes 32 = .ok (.iastore, 1) := by decide +kernel
theorem dX10_notes_33 : decode cX10_notes 33 = .ok (.iinc 1 1, 3) := by decide +kernel
theorem dX10_notes_36 : decode cX10_notes 36 = .ok (.goto (-26), 3) := by decide +kernel
theorem dX10_notes_39 : decode cX10_notes 39 = .ok (.aload_n 0, 1) := by decide +kernel
theorem dX10_notes_40 : decode cX10_notes 40 = .ok (.dup, 1) := by decide +kernel
theorem dX10_notes_41 : decode cX10_notes 41 = .ok (.getfield 39, 3) := by decide +kernel
theorem dX10_notes_44 : decode cX10_notes 44 = .ok (.iconst 1, 1) := by decide +kernel
theorem dX10_notes_45 : decode cX10_notes 45 = .ok (.isub, 1) := by decide +kernel
theorem dX10_notes_46 : decode cX10_notes 46 = .ok (.putfield 39, 3) := by decide +kernel
theorem dX10_notes_49 : decode cX10_notes 49 = .ok (.iconst 0, 1) := by decide +kernel
theorem dX10_notes_50 : decode cX10_notes 50 = .ok (.istore_n 1, 1) := by decide +kernel
theorem dX10_notes_51 : decode cX10_notes 51 = .ok (.iload_n 1, 1) := by decide +kernel
theorem dX10_notes_52 : decode cX10_notes 52 = .ok (.sipush 2063, 3) := by decide +kernel
theorem dX10_notes_55 : decode cX10_notes 55 = .ok (.if_icmp .ge 30, 3) := by decide +kernel
theorem dX10_notes_58 : decode cX10_notes 58 = .ok (.aload_n 0, 1) := by decide +kernel
theorem dX10_notes_59 : decode cX10_notes 59 = .ok (.getfield 13, 3) := by decide +kernel
theorem dX10_notes_62 : decode cX10_notes 62 = .ok (.sipush 2063, 3) := by decide +kernel
theorem dX10_notes_65 : decode cX10_notes 65 = .ok (.aload_n 0, 1) := by decide +kernel
theorem dX10_notes_66 : decode cX10_notes 66 = .ok (.getfield 39, 3) := by decide +kernel
theorem dX10_notes_69 : decode cX10_notes 69 = .ok (.imul, 1) := by decide +kernel
theorem dX10_notes_70 : decode cX10_notes 70 = .ok (.iload_n 1, 1) := by decide +kernel
theorem dX10_notes_71 : decode cX10_notes 71 = .ok (.iadd, 1) := by decide +kernel
theorem dX10_notes_72 : decode cX10_notes 72 = .ok (.aload_n 0, 1) := by decide +kernel
theorem dX10_notes_73 : decode cX10_notes 73 = .ok (.getfield 7, 3) := by decide +kernel
theorem dX10_notes_76 : decode cX10_notes 76 = .ok (.iload_n 1, 1) := by decide +kernel
theorem dX10_notes_77 : decode cX10_notes 77 = .ok (.iaload, 1) := by decide +kernel
theorem dX10_notes_78 : decode cX10_notes 78 = .ok (.iastore, 1) := by decide +kernel
theorem dX10_notes_79 : decode cX10_notes 79 = .ok (.iinc 1 1, 3) := by decide +kernel
theorem dX10_notes_82 : decode cX10_notes 82 = .ok (.goto (-31), 3) := by decide +kernel
theorem dX10_notes_85 : decode cX10_notes 85 = .ok (.aload_n 0, 1) := by decide +kernel
theorem dX10_notes_86 : decode cX10_notes 86 = .ok (.dup, 1) := by decide +kernel
theorem dX10_notes_87 : decode cX10_notes 87 = .ok (.getfield 39, 3) := by decide +kernel
theorem dX10_notes_90 : decode cX10_notes 90 = .ok (.iconst 1, 1) := by decide +kernel
theorem dX10_notes_91 : decode cX10_notes 91 = .ok (.iadd, 1) := by decide +kernel
theorem dX10_notes_92 : decode cX10_notes 92 = .ok (.putfield 39, 3) := by decide +kernel
theorem dX10_notes_95 : decode cX10_notes 95 = .ok (.return_, 1) := by decide +kernel
theorem dX10_c_0 : decode cX10_c 0 = .ok (.bipush 15, 2) := by decide +kernel
theorem dX10_c_2 : decode cX10_c 2 = .ok (.iconst 3, 1) := by decide +kernel
theorem dX10_c_3 : decode cX10_c 3 = .ok (.iload_n 0, 1) := by decide +kernel
theorem dX10_c_4 : decode cX10_c 4 = .ok (.imul, 1) := by decide +kernel
theorem dX10_c_5 : decode cX10_c 5 = .ok (.iadd, 1) := by decide +kernel
theorem dX10_c_6 : decode cX10_c 6 = .ok (.iload_n 1, 1) := by decide +kernel
theorem dX10_c_7 : decode cX10_c 7 = .ok (.iadd, 1) := by decide +kernel
theorem dX10_c_8 : decode cX10_c 8 = .ok (.ireturn, 1) := by decide +kernel
theorem dX10_lays_0 : decode cX10_lays 0 = .ok (.iconst 0, 1) := by decide +kernel
theorem dX10_lays_1 : decode cX10_lays 1 = .ok (.istore_n 2, 1) := by decide +kernel
theorem dX10_lays_2 : decode cX10_lays 2 = .ok (.iload_n 2, 1) := by decide +kernel
theorem dX10_lays_3 : decode cX10_lays 3 = .ok (.bipush 24, 2) := by decide +kernel
theorem dX10_lays_5 : decode cX10_lays 5 = .ok (.if_icmp .ge 16, 3) := by decide +kernel
theorem dX10_lays_8 : decode cX10_lays 8 = .ok (.aload_n 0, 1) := by decide +kernel
theorem dX10_lays_9 : decode cX10_lays 9 = .ok (.getfield 19, 3) := by decide +kernel
theorem dX10_lays_12 : decode cX10_lays 12 = .ok (.iload_n 2, 1) := by decide +kernel
theorem dX10_lays_13 : decode cX10_lays 13 = .ok (.iconst (-1), 1) := by decide +kernel
theorem dX10_lays_14 : decode cX10_lays 14 = .ok (.iastore, 1) := by decide +kernel
theorem dX10_lays_15 : decode cX10_lays 15 = .ok (.iinc 2 1, 3) := by decide +kernel
theorem dX10_lays_18 : decode cX10_lays 18 = .ok (.goto (-16), 3) := by decide +kernel
theorem dX10_lays_21 : decode cX10_lays 21 = .ok (.iconst 0, 1) := by decide +kernel
theorem dX10_lays_22 : decode cX10_lays 22 = .ok (.istore_n 2, 1) := by decide +kernel
theorem dX10_lays_23 : decode cX10_lays 23 = .ok (.iload_n 2, 1) := by decide +kernel
theorem dX10_lays_24 : decode cX10_lays 24 = .ok (.iload_n 1, 1) := by decide +kernel
theorem dX10_lays_25 : decode cX10_lays 25 = .ok (.if_icmp .ge 48, 3) := by decide +kernel
theorem dX10_lays_28 : decode cX10_lays 28 = .ok (.aload_n 0, 1) := by decide +kernel
theorem dX10_lays_29 : decode cX10_lays 29 = .ok (.getfield 19, 3) := by decide +kernel
theorem dX10_lays_32 : decode cX10_lays 32 = .ok (.bipush 12, 2) := by decide +kernel
theorem dX10_lays_34 : decode cX10_lays 34 = .ok (.aload_n 0, 1) := by decide +kernel
theorem dX10_lays_35 : decode cX10_lays 35 = .ok (.getfield 7, 3) := by decide +kernel
theorem dX10_lays_38 : decode cX10_lays 38 = .ok (.iload_n 2, 1) := by decide +kernel
theorem dX10_lays_39 : decode cX10_lays 39 = .ok (.iconst 0, 1) := by decide +kernel
theorem dX10_lays_40 : decode cX10_lays 40 = .ok (.invokestatic 43, 3) := by decide +kernel
theorem dX10_lays_43 : decode cX10_lays 43 = .ok (.iaload, 1) := by decide +kernel
theorem dX10_lays_44 : decode cX10_lays 44 = .ok (.imul, 1) := by decide +kernel
theorem dX10_lays_45 : decode cX10_lays 45 = .ok (.aload_n 0, 1) := by decide +kernel
theorem dX10_lays_46 : decode cX10_lays 46 = .ok (.getfield 7, 3) := by decide +kernel
theorem dX10_lays_49 : decode cX10_lays 49 = .ok (.iload_n 2, 1) := by decide +kernel
theorem dX10_lays_50 : decode cX10_lays 50 = .ok (.iconst 1, 1) := by decide +kernel
theorem dX10_lays_51 : decode cX10_lays 51 = .ok (.invokestatic 43, 3) := by decide +kernel
theorem dX10_lays_54 : decode cX10_lays 54 = .ok (.iaload, 1) := by decide +kernel
theorem dX10_lays_55 : decode cX10_lays 55 = .ok (.iadd, 1) := by decide +kernel
theorem dX10_lays_56 : decode cX10_lays 56 = .ok (.aload_n 0, 1) := by decide +kernel
theorem dX10_lays_57 : decode cX10_lays 57 = .ok (.getfield 7, 3) := by decide +kernel
theorem dX10_lays_60 : decode cX10_lays 60 = .ok (.iload_n 2, 1) := by decide +kernel
theorem dX10_lays_61 : decode cX10_lays 61 = .ok (.iconst 2, 1) := by decide +kernel
theorem dX10_lays_62 : decode cX10_lays 62 = .ok (.invokestatic 43, 3) := by decide +kernel
theorem dX10_lays_65 : decode cX10_lays 65 = .ok (.iaload, 1) := by decide +kernel
theorem dX10_lays_66 : decode cX10_lays 66 = .ok (.iastore, 1) := by decide +kernel
theorem dX10_lays_67 : decode cX10_lays 67 = .ok (.iinc 2 1, 3) := by decide +kernel
theorem dX10_lays_70 : decode cX10_lays 70 = .ok (.goto (-47), 3) := by decide +kernel
theorem dX10_lays_73 : decode cX10_lays 73 = .ok (.return_, 1) := by decide +kernel
theorem dX10_answerOf_0 : decode cX10_answerOf 0 = .ok (.aload_n 0, 1) := by decide +kernel
theorem dX10_answerOf_1 : decode cX10_answerOf 1 = .ok (.getfield 7, 3) := by decide +kernel
theorem dX10_answerOf_4 : decode cX10_answerOf 4 = .ok (.iload_n 1, 1) := by decide +kernel
theorem dX10_answerOf_5 : decode cX10_answerOf 5 = .ok (.iconst 0, 1) := by decide +kernel
theorem dX10_answerOf_6 : decode cX10_answerOf 6 = .ok (.invokestatic 35, 3) := by decide +kernel
theorem dX10_answerOf_9 : decode cX10_answerOf 9 = .ok (.iaload, 1) := by decide +kernel
theorem dX10_answerOf_10 : decode cX10_answerOf 10 = .ok (.istore_n 2, 1) := by decide +kernel
theorem dX10_answerOf_11 : decode cX10_answerOf 11 = .ok (.iload_n 2, 1) := by decide +kernel
theorem dX10_answerOf_12 : decode cX10_answerOf 12 = .ok (.iconst 4, 1) := by decide +kernel
theorem dX10_answerOf_13 : decode cX10_answerOf 13 = .ok (.if_icmp .ne 35, 3) := by decide +kernel
theorem dX10_answerOf_16 : decode cX10_answerOf 16 = .ok (.aload_n 0, 1) := by decide +kernel
theorem dX10_answerOf_17 : decode cX10_answerOf 17 = .ok (.getfield 22, 3) := by decide +kernel
theorem dX10_answerOf_20 : decode cX10_answerOf 20 = .ok (.aload_n 0, 1) := by decide +kernel
theorem dX10_answerOf_21 : decode cX10_answerOf 21 = .ok (.getfield 7, 3) := by decide +kernel
theorem dX10_answerOf_24 : decode cX10_answerOf 24 = .ok (.iload_n 1, 1) := by decide +kernel
theorem dX10_answerOf_25 : decode cX10_answerOf 25 = .ok (.iconst 2, 1) := by decide +kernel
theorem dX10_answerOf_26 : decode cX10_answerOf 26 = .ok (.invokestatic 35, 3) := by decide +kernel
theorem dX10_answerOf_29 : decode cX10_answerOf 29 = .ok (.iaload, 1) := by decide +kernel
theorem dX10_answerOf_30 : decode cX10_answerOf 30 = .ok (.iaload, 1) := by decide +kernel
theorem dX10_answerOf_31 : decode cX10_answerOf 31 = .ok (.aload_n 0, 1) := by decide +kernel
theorem dX10_answerOf_32 : decode cX10_answerOf 32 = .ok (.getfield 22, 3) := by decide +kernel
theorem dX10_answerOf_35 : decode cX10_answerOf 35 = .ok (.aload_n 0, 1) := by decide +kernel
theorem dX10_answerOf_36 : decode cX10_answerOf 36 = .ok (.getfield 7, 3) := by decide +kernel
theorem dX10_answerOf_39 : decode cX10_answerOf 39 = .ok (.iload_n 1, 1) := by decide +kernel
theorem dX10_answerOf_40 : decode cX10_answerOf 40 = .ok (.iconst 3, 1) := by decide +kernel
theorem dX10_answerOf_41 : decode cX10_answerOf 41 = .ok (.invokestatic 35, 3) := by decide +kernel
theorem dX10_answerOf_44 : decode cX10_answerOf 44 = .ok (.iaload, 1) := by decide +kernel
theorem dX10_answerOf_45 : decode cX10_answerOf 45 = .ok (.iaload, 1) := by decide +kernel
theorem dX10_answerOf_46 : decode cX10_answerOf 46 = .ok (.isub, 1) := by decide +kernel
theorem dX10_answerOf_47 : decode cX10_answerOf 47 = .ok (.ireturn, 1) := by decide +kernel
theorem dX10_answerOf_48 : decode cX10_answerOf 48 = .ok (.iload_n 2, 1) := by decide +kernel
theorem dX10_answerOf_49 : decode cX10_answerOf 49 = .ok (.iconst 2, 1) := by decide +kernel
theorem dX10_answerOf_50 : decode cX10_answerOf 50 = .ok (.if_icmp .ne 7, 3) := by decide +kernel
theorem dX10_answerOf_53 : decode cX10_answerOf 53 = .ok (.iconst (-1), 1) := by decide +kernel
theorem dX10_answerOf_54 : decode cX10_answerOf 54 = .ok (.goto 4, 3) := by decide +kernel
theorem dX10_answerOf_57 : decode cX10_answerOf 57 = .ok (.iconst 0, 1) := by decide +kernel
theorem dX10_answerOf_58 : decode cX10_answerOf 58 = .ok (.istore_n 3, 1) := by decide +kernel
theorem dX10_answerOf_59 : decode cX10_answerOf 59 = .ok (.aload_n 0, 1) := by decide +kernel
theorem dX10_answerOf_60 : decode cX10_answerOf 60 = .ok (.getfield 7, 3) := by decide +kernel
theorem dX10_answerOf_63 : decode cX10_answerOf 63 = .ok (.iload_n 1, 1) := by decide +kernel
theorem dX10_answerOf_64 : decode cX10_answerOf 64 = .ok (.iconst 2, 1) := by decide +kernel
theorem dX10_answerOf_65 : decode cX10_answerOf 65 = .ok (.invokestatic 35, 3) := by decide +kernel
theorem dX10_answerOf_68 : decode cX10_answerOf 68 = .ok (.iaload, 1) := by decide +kernel
theorem dX10_answerOf_69 : decode cX10_answerOf 69 = .ok (.istore 4, 2) := by decide +kernel
theorem dX10_answerOf_71 : decode cX10_answerOf 71 = .ok (.iload 4, 2) := by decide +kernel
theorem dX10_answerOf_73 : decode cX10_answerOf 73 = .ok (.aload_n 0, 1) := by decide +kernel
theorem dX10_answerOf_74 : decode cX10_answerOf 74 = .ok (.getfield 7, 3) := by decide +kernel
theorem dX10_answerOf_77 : decode cX10_answerOf 77 = .ok (.iload_n 1, 1) := by decide +kernel
theorem dX10_answerOf_78 : decode cX10_answerOf 78 = .ok (.iconst 3, 1) := by decide +kernel
theorem dX10_answerOf_79 : decode cX10_answerOf 79 = .ok (.invokestatic 35, 3) := by decide +kernel
theorem dX10_answerOf_82 : decode cX10_answerOf 82 = .ok (.iaload, 1) := by decide +kernel
theorem dX10_answerOf_83 : decode cX10_answerOf 83 = .ok (.if_icmp .gt 142, 3) := by decide +kernel
theorem dX10_answerOf_86 : decode cX10_answerOf 86 = .ok (.aload_n 0, 1) := by decide +kernel
theorem dX10_answerOf_87 : decode cX10_answerOf 87 = .ok (.getfield 19, 3) := by decide +kernel
theorem dX10_answerOf_90 : decode cX10_answerOf 90 = .ok (.bipush 12, 2) := by decide +kernel
theorem dX10_answerOf_92 : decode cX10_answerOf 92 = .ok (.aload_n 0, 1) := by decide +kernel
theorem dX10_answerOf_93 : decode cX10_answerOf 93 = .ok (.getfield 7, 3) := by decide +kernel
theorem dX10_answerOf_96 : decode cX10_answerOf 96 = .ok (.iload_n 1, 1) := by decide +kernel
theorem dX10_answerOf_97 : decode cX10_answerOf 97 = .ok (.iconst 1, 1) := by decide +kernel
theorem dX10_answerOf_98 : decode cX10_answerOf 98 = .ok (.invokestatic 35, 3) := by decide +kernel
theorem dX10_answerOf_101 : decode cX10_answerOf 101 = .ok (.iaload, 1) := by decide +kernel
theorem dX10_answerOf_102 : decode cX10_answerOf 102 = .ok (.imul, 1) := by decide +kernel
theorem dX10_answerOf_103 : decode cX10_answerOf 103 = .ok (.iload 4, 2) := by decide +kernel
theorem dX10_answerOf_105 : decode cX10_answerOf 105 = .ok (.iadd, 1) := by decide +kernel
theorem dX10_answerOf_106 : decode cX10_answerOf 106 = .ok (.iaload, 1) := by decide +kernel
theorem dX10_answerOf_107 : decode cX10_answerOf 107 = .ok (.istore 5, 2) := by decide +kernel
theorem dX10_answerOf_109 : decode cX10_answerOf 109 = .ok (.aload_n 0, 1) := by decide +kernel
theorem dX10_answerOf_110 : decode cX10_answerOf 110 = .ok (.getfield 19, 3) := by decide +kernel
theorem dX10_answerOf_113 : decode cX10_answerOf 113 = .ok (.bipush 12, 2) := by decide +kernel
theorem dX10_answerOf_115 : decode cX10_answerOf 115 = .ok (.iload 4, 2) := by decide +kernel
theorem dX10_answerOf_117 : decode cX10_answerOf 117 = .ok (.iadd, 1) := by decide +kernel
theorem dX10_answerOf_118 : decode cX10_answerOf 118 = .ok (.iaload, 1) := by decide +kernel
theorem dX10_answerOf_119 : decode cX10_answerOf 119 = .ok (.istore 6, 2) := by decide +kernel
theorem dX10_answerOf_121 : decode cX10_answerOf 121 = .ok (.iload_n 2, 1) := by decide +kernel
theorem dX10_answerOf_122 : decode cX10_answerOf 122 = .ok (.tableswitch 75 0 2 #[26, 43, 59], 26) := by decide +kernel
theorem dX10_answerOf_148 : decode cX10_answerOf 148 = .ok (.iload_n 3, 1) := by decide +kernel
theorem dX10_answerOf_149 : decode cX10_answerOf 149 = .ok (.iload 5, 2) := by decide +kernel
theorem dX10_answerOf_151 : decode cX10_answerOf 151 = .ok (.ifCond .ge 7, 3) := by decide +kernel
theorem dX10_answerOf_154 : decode cX10_answerOf 154 = .ok (.iconst 0, 1) := by decide +kernel
theorem dX10_answerOf_155 : decode cX10_answerOf 155 = .ok (.goto 5, 3) := by decide +kernel
theorem dX10_answerOf_158 : decode cX10_answerOf 158 = .ok (.iload 5, 2) := by decide +kernel
theorem dX10_answerOf_160 : decode cX10_answerOf 160 = .ok (.iadd, 1) := by decide +kernel
theorem dX10_answerOf_161 : decode cX10_answerOf 161 = .ok (.istore_n 3, 1) := by decide +kernel
theorem dX10_answerOf_162 : decode cX10_answerOf 162 = .ok (.goto 57, 3) := by decide +kernel
theorem dX10_answerOf_165 : decode cX10_answerOf 165 = .ok (.iload_n 3, 1) := by decide +kernel
theorem dX10_answerOf_166 : decode cX10_answerOf 166 = .ok (.iload 5, 2) := by decide +kernel
theorem dX10_answerOf_168 : decode cX10_answerOf 168 = .ok (.ifCond .ge 7, 3) := by decide +kernel
theorem dX10_answerOf_171 : decode cX10_answerOf 171 = .ok (.iconst 0, 1) := by decide +kernel
theorem dX10_answerOf_172 : decode cX10_answerOf 172 = .ok (.goto 4, 3) := by decide +kernel
theorem dX10_answerOf_175 : decode cX10_answerOf 175 = .ok (.iconst 1, 1) := by decide +kernel
theorem dX10_answerOf_176 : decode cX10_answerOf 176 = .ok (.iadd, 1) := by decide +kernel
theorem dX10_answerOf_177 : decode cX10_answerOf 177 = .ok (.istore_n 3, 1) := by decide +kernel
theorem dX10_answerOf_178 : decode cX10_answerOf 178 = .ok (.goto 41, 3) := by decide +kernel
theorem dX10_answerOf_181 : decode cX10_answerOf 181 = .ok (.iload 5, 2) := by decide +kernel
theorem dX10_answerOf_183 : decode cX10_answerOf 183 = .ok (.iload_n 3, 1) := by decide +kernel
theorem dX10_answerOf_184 : decode cX10_answerOf 184 = .ok (.if_icmp .le 8, 3) := by decide +kernel
theorem dX10_answerOf_187 : decode cX10_answerOf 187 = .ok (.iload 5, 2) := by decide +kernel
theorem dX10_answerOf_189 : decode cX10_answerOf 189 = .ok (.goto 4, 3) := by decide +kernel
theorem dX10_answerOf_192 : decode cX10_answerOf 192 = .ok (.iload_n 3, 1) := by decide +kernel
theorem dX10_answerOf_193 : decode cX10_answerOf 193 = .ok (.istore_n 3, 1) := by decide +kernel
theorem dX10_answerOf_194 : decode cX10_answerOf 194 = .ok (.goto 25, 3) := by decide +kernel
theorem dX10_answerOf_197 : decode cX10_answerOf 197 = .ok (.iload_n 3, 1) := by decide +kernel
theorem dX10_answerOf_198 : decode cX10_answerOf 198 = .ok (.iload 5, 2) := by decide +kernel
theorem dX10_answerOf_200 : decode cX10_answerOf 200 = .ok (.ifCond .lt 8, 3) := by decide +kernel
theorem dX10_answerOf_203 : decode cX10_answerOf 203 = .ok (.iload 6, 2) := by decide +kernel
theorem dX10_answerOf_205 : decode cX10_answerOf 205 = .ok (.ifCond .ge 7, 3) := by decide +kernel
theorem dX10_answerOf_208 : decode cX10_answerOf 208 = .ok (.iconst 0, 1) := by decide +kernel
theorem dX10_answerOf_209 : decode cX10_answerOf 209 = .ok (.goto 8, 3) := by decide +kernel
theorem dX10_answerOf_212 : decode cX10_answerOf 212 = .ok (.iload 5, 2) := by decide +kernel
theorem dX10_answerOf_214 : decode cX10_answerOf 214 = .ok (.iload 6, 2) := by decide +kernel
theorem dX10_answerOf_216 : decode cX10_answerOf 216 = .ok (.imul, 1) := by decide +kernel
theorem dX10_answerOf_217 : decode cX10_answerOf 217 = .ok (.iadd, 1) := by decide +kernel
theorem dX10_answerOf_218 : decode cX10_answerOf 218 = .ok (.istore_n 3, 1) := by decide +kernel
theorem dX10_answerOf_219 : decode cX10_answerOf 219 = .ok (.iinc 4 1, 3) := by decide +kernel
theorem dX10_answerOf_222 : decode cX10_answerOf 222 = .ok (.goto (-151), 3) := by decide +kernel
theorem dX10_answerOf_225 : decode cX10_answerOf 225 = .ok (.iload_n 3, 1) := by decide +kernel
theorem dX10_answerOf_226 : decode cX10_answerOf 226 = .ok (.ireturn, 1) := by decide +kernel
theorem dX10_answerAt_0 : decode cX10_answerAt 0 = .ok (.aload_n 0, 1) := by decide +kernel
theorem dX10_answerAt_1 : decode cX10_answerAt 1 = .ok (.iload_n 2, 1) := by decide +kernel
theorem dX10_answerAt_2 : decode cX10_answerAt 2 = .ok (.invokevirtual 46, 3) := by decide +kernel
theorem dX10_answerAt_5 : decode cX10_answerAt 5 = .ok (.iconst 0, 1) := by decide +kernel
theorem dX10_answerAt_6 : decode cX10_answerAt 6 = .ok (.istore_n 3, 1) := by decide +kernel
theorem dX10_answerAt_7 : decode cX10_answerAt 7 = .ok (.iload_n 3, 1) := by decide +kernel
theorem dX10_answerAt_8 : decode cX10_answerAt 8 = .ok (.iload_n 1, 1) := by decide +kernel
theorem dX10_answerAt_9 : decode cX10_answerAt 9 = .ok (.if_icmp .gt 38, 3) := by decide +kernel
theorem dX10_answerAt_12 : decode cX10_answerAt 12 = .ok (.aload_n 0, 1) := by decide +kernel
theorem dX10_answerAt_13 : decode cX10_answerAt 13 = .ok (.getfield 22, 3) := by decide +kernel
theorem dX10_answerAt_16 : decode cX10_answerAt 16 = .ok (.iload_n 3, 1) := by decide +kernel
theorem dX10_answerAt_17 : decode cX10_answerAt 17 = .ok (.aload_n 0, 1) := by decide +kernel
theorem dX10_answerAt_18 : decode cX10_answerAt 18 = .ok (.getfield 7, 3) := by decide +kernel
theorem dX10_answerAt_21 : decode cX10_answerAt 21 = .ok (.iload_n 3, 1) := by decide +kernel
theorem dX10_answerAt_22 : decode cX10_answerAt 22 = .ok (.iconst 4, 1) := by decide +kernel
theorem dX10_answerAt_23 : decode cX10_answerAt 23 = .ok (.invokestatic 35, 3) := by decide +kernel
theorem dX10_answerAt_26 : decode cX10_answerAt 26 = .ok (.iaload, 1) := by decide +kernel
theorem dX10_answerAt_27 : decode cX10_answerAt 27 = .ok (.iconst 1, 1) := by decide +kernel
theorem dX10_answerAt_28 : decode cX10_answerAt 28 = .ok (.if_icmp .ne 11, 3) := by decide +kernel
theorem dX10_answerAt_31 : decode cX10_answerAt 31 = .ok (.aload_n 0, 1) := by decide +kernel
theorem dX10_answerAt_32 : decode cX10_answerAt 32 = .ok (.iload_n 3, 1) := by decide +kernel
theorem dX10_answerAt_33 : decode cX10_answerAt 33 = .ok (.invokevirtual 50, 3) := by decide +kernel
theorem dX10_answerAt_36 : decode cX10_answerAt 36 = .ok (.goto 4, 3) := by decide +kernel
theorem dX10_answerAt_39 : decode cX10_answerAt 39 = .ok (.iconst 0, 1) := by decide +kernel
theorem dX10_answerAt_40 : decode cX10_answerAt 40 = .ok (.iastore, 1) := by decide +kernel
theorem dX10_answerAt_41 : decode cX10_answerAt 41 = .ok (.iinc 3 1, 3) := by decide +kernel
theorem dX10_answerAt_44 : decode cX10_answerAt 44 = .ok (.goto (-37), 3) := by decide +kernel
theorem dX10_answerAt_47 : decode cX10_answerAt 47 = .ok (.aload_n 0, 1) := by decide +kernel
theorem dX10_answerAt_48 : decode cX10_answerAt 48 = .ok (.getfield 22, 3) := by decide +kernel
theorem dX10_answerAt_51 : decode cX10_answerAt 51 = .ok (.iload_n 1, 1) := by decide +kernel
theorem dX10_answerAt_52 : decode cX10_answerAt 52 = .ok (.iaload, 1) := by decide +kernel
theorem dX10_answerAt_53 : decode cX10_answerAt 53 = .ok (.ireturn, 1) := by decide +kernel
theorem dX10_concerned_0 : decode cX10_concerned 0 = .ok (.iconst 0, 1) := by decide +kernel
theorem dX10_concerned_1 : decode cX10_concerned 1 = .ok (.istore_n 2, 1) := by decide +kernel
theorem dX10_concerned_2 : decode cX10_concerned 2 = .ok (.iconst 0, 1) := by decide +kernel
theorem dX10_concerned_3 : decode cX10_concerned 3 = .ok (.istore_n 3, 1) := by decide +kernel
theorem dX10_concerned_4 : decode cX10_concerned 4 = .ok (.iload_n 3, 1) := by decide +kernel
theorem dX10_concerned_5 : decode cX10_concerned 5 = .ok (.aload_n 0, 1) := by decide +kernel
theorem dX10_concerned_6 : decode cX10_concerned 6 = .ok (.getfield 7, 3) := by decide +kernel
theorem dX10_concerned_9 : decode cX10_concerned 9 = .ok (.iconst 1, 1) := by decide +kernel
theorem dX10_concerned_10 : decode cX10_concerned 10 = .ok (.iaload, 1) := by decide +kernel
theorem dX10_concerned_11 : decode cX10_concerned 11 = .ok (.if_icmp .ge 162, 3) := by decide +kernel
theorem dX10_concerned_14 : decode cX10_concerned 14 = .ok (.aload_n 0, 1) := by decide +kernel
theorem dX10_concerned_15 : decode cX10_concerned 15 = .ok (.getfield 7, 3) := by decide +kernel
theorem dX10_concerned_18 : decode cX10_concerned 18 = .ok (.iload_n 3, 1) := by decide +kernel
theorem dX10_concerned_19 : decode cX10_concerned 19 = .ok (.iconst 0, 1) := by decide +kernel
theorem dX10_concerned_20 : decode cX10_concerned 20 = .ok (.invokestatic 35, 3) := by decide +kernel
theorem dX10_concerned_23 : decode cX10_concerned 23 = .ok (.iaload, 1) := by decide +kernel
theorem dX10_concerned_24 : decode cX10_concerned 24 = .ok (.istore 4, 2) := by decide +kernel
theorem dX10_concerned_26 : decode cX10_concerned 26 = .ok (.aload_n 0, 1) := by decide +kernel
theorem dX10_concerned_27 : decode cX10_concerned 27 = .ok (.getfield 7, 3) := by decide +kernel
theorem dX10_concerned_30 : decode cX10_concerned 30 = .ok (.iload_n 3, 1) := by decide +kernel
theorem dX10_concerned_31 : decode cX10_concerned 31 = .ok (.iconst 2, 1) := by decide +kernel
theorem dX10_concerned_32 : decode cX10_concerned 32 = .ok (.invokestatic 35, 3) := by decide +kernel
theorem dX10_concerned_35 : decode cX10_concerned 35 = .ok (.iaload, 1) := by decide +kernel
theorem dX10_concerned_36 : decode cX10_concerned 36 = .ok (.istore 5, 2) := by decide +kernel
theorem dX10_concerned_38 : decode cX10_concerned 38 = .ok (.aload_n 0, 1) := by decide +kernel
theorem dX10_concerned_39 : decode cX10_concerned 39 = .ok (.getfield 7, 3) := by decide +kernel
theorem dX10_concerned_42 : decode cX10_concerned 42 = .ok (.iload_n 3, 1) := by decide +kernel
theorem dX10_concerned_43 : decode cX10_concerned 43 = .ok (.iconst 3, 1) := by decide +kernel
theorem dX10_concerned_44 : decode cX10_concerned 44 = .ok (.invokestatic 35, 3) := by decide +kernel
theorem dX10_concerned_47 : decode cX10_concerned 47 = .ok (.iaload, 1) := by decide +kernel
theorem dX10_concerned_48 : decode cX10_concerned 48 = .ok (.istore 6, 2) := by decide +kernel
theorem dX10_concerned_50 : decode cX10_concerned 50 = .ok (.iload 4, 2) := by decide +kernel
theorem dX10_concerned_52 : decode cX10_concerned 52 = .ok (.iconst 4, 1) := by decide +kernel
theorem dX10_concerned_53 : decode cX10_concerned 53 = .ok (.if_icmp .ne 29, 3) := by decide +kernel
theorem dX10_concerned_56 : decode cX10_concerned 56 = .ok (.iload_n 2, 1) := by decide +kernel
theorem dX10_concerned_57 : decode cX10_concerned 57 = .ok (.iload 5, 2) := by decide +kernel
theorem dX10_concerned_59 : decode cX10_concerned 59 = .ok (.invokestatic 54, 3) := by decide +kernel
theorem dX10_concerned_62 : decode cX10_concerned 62 = .ok (.ifCond .ne 12, 3) := by decide +kernel
theorem dX10_concerned_65 : decode cX10_concerned 65 = .ok (.iload_n 2, 1) := by decide +kernel
theorem dX10_concerned_66 : decode cX10_concerned 66 = .ok (.iload 6, 2) := by decide +kernel
theorem dX10_concerned_68 : decode cX10_concerned 68 = .ok (.invokestatic 54, 3) := by decide +kernel
theorem dX10_concerned_71 : decode cX10_concerned 71 = .ok (.ifCond .eq 7, 3) := by decide +kernel
theorem dX10_concerned_74 : decode cX10_concerned 74 = .ok (.iconst 1, 1) := by decide +kernel
theorem dX10_concerned_75 : decode cX10_concerned 75 = .ok (.goto 61, 3) := by decide +kernel
theorem dX10_concerned_78 : decode cX10_concerned 78 = .ok (.iconst 0, 1) := by decide +kernel
theorem dX10_concerned_79 : decode cX10_concerned 79 = .ok (.goto 57, 3) := by decide +kernel
theorem dX10_concerned_82 : decode cX10_concerned 82 = .ok (.aload_n 0, 1) := by decide +kernel
theorem dX10_concerned_83 : decode cX10_concerned 83 = .ok (.getfield 7, 3) := by decide +kernel
theorem dX10_concerned_86 : decode cX10_concerned 86 = .ok (.iload_n 1, 1) := by decide +kernel
theorem dX10_concerned_87 : decode cX10_concerned 87 = .ok (.iconst 1, 1) := by decide +kernel
theorem dX10_concerned_88 : decode cX10_concerned 88 = .ok (.invokestatic 43, 3) := by decide +kernel
theorem dX10_concerned_91 : decode cX10_concerned 91 = .ok (.iaload, 1) := by decide +kernel
theorem dX10_concerned_92 : decode cX10_concerned 92 = .ok (.iload 5, 2) := by decide +kernel
theorem dX10_concerned_94 : decode cX10_concerned 94 = .ok (.iload 6, 2) := by decide +kernel
theorem dX10_concerned_96 : decode cX10_concerned 96 = .ok (.invokestatic 31, 3) := by decide +kernel
theorem dX10_concerned_99 : decode cX10_concerned 99 = .ok (.ifCond .eq 36, 3) := by decide +kernel
theorem dX10_concerned_102 : decode cX10_concerned 102 = .ok (.iload 4, 2) := by decide +kernel
theorem dX10_concerned_104 : decode cX10_concerned 104 = .ok (.iconst 3, 1) := by decide +kernel
theorem dX10_concerned_105 : decode cX10_concerned 105 = .ok (.if_icmp .eq 26, 3) := by decide +kernel
theorem dX10_concerned_108 : decode cX10_concerned 108 = .ok (.aload_n 0, 1) := by decide +kernel
theorem dX10_concerned_109 : decode cX10_concerned 109 = .ok (.getfield 7, 3) := by decide +kernel
theorem dX10_concerned_112 : decode cX10_concerned 112 = .ok (.iload_n 3, 1) := by decide +kernel
theorem dX10_concerned_113 : decode cX10_concerned 113 = .ok (.iconst 1, 1) := by decide +kernel
theorem dX10_concerned_114 : decode cX10_concerned 114 = .ok (.invokestatic 35, 3) := by decide +kernel
theorem dX10_concerned_117 : decode cX10_concerned 117 = .ok (.iaload, 1) := by decide +kernel
theorem dX10_concerned_118 : decode cX10_concerned 118 = .ok (.aload_n 0, 1) := by decide +kernel
theorem dX10_concerned_119 : decode cX10_concerned 119 = .ok (.getfield 7, 3) := by decide +kernel
theorem dX10_concerned_122 : decode cX10_concerned 122 = .ok (.iload_n 1, 1) := by decide +kernel
theorem dX10_concerned_123 : decode cX10_concerned 123 = .ok (.iconst 0, 1) := by decide +kernel
theorem dX10_concerned_124 : decode cX10_concerned 124 = .ok (.invokestatic 43, 3) := by decide +kernel
theorem dX10_concerned_127 : decode cX10_concerned 127 = .ok (.iaload, 1) := by decide +kernel
theorem dX10_concerned_128 : decode cX10_concerned 128 = .ok (.if_icmp .ne 7, 3) := by decide +kernel
theorem dX10_concerned_131 : decode cX10_concerned 131 = .ok (.iconst 1, 1) := by decide +kernel
theorem dX10_concerned_132 : decode cX10_concerned 132 = .ok (.goto 4, 3) := by decide +kernel
theorem dX10_concerned_135 : decode cX10_concerned 135 = .ok (.iconst 0, 1) := by decide +kernel
theorem dX10_concerned_136 : decode cX10_concerned 136 = .ok (.istore 7, 2) := by decide +kernel
theorem dX10_concerned_138 : decode cX10_concerned 138 = .ok (.iload_n 2, 1) := by decide +kernel
theorem dX10_concerned_139 : decode cX10_concerned 139 = .ok (.iload 7, 2) := by decide +kernel
theorem dX10_concerned_141 : decode cX10_concerned 141 = .ok (.ifCond .eq 23, 3) := by decide +kernel
theorem dX10_concerned_144 : decode cX10_concerned 144 = .ok (.aload_n 0, 1) := by decide +kernel
theorem dX10_concerned_145 : decode cX10_concerned 145 = .ok (.getfield 7, 3) := by decide +kernel
theorem dX10_concerned_148 : decode cX10_concerned 148 = .ok (.iload_n 3, 1) := by decide +kernel
theorem dX10_concerned_149 : decode cX10_concerned 149 = .ok (.iconst 4, 1) := by decide +kernel
theorem dX10_concerned_150 : decode cX10_concerned 150 = .ok (.invokestatic 35, 3) := by decide +kernel
theorem dX10_concerned_153 : decode cX10_concerned 153 = .ok (.iaload, 1) := by decide +kernel
theorem dX10_concerned_154 : decode cX10_concerned 154 = .ok (.iconst 1, 1) := by decide +kernel
theorem dX10_concerned_155 : decode cX10_concerned 155 = .ok (.if_icmp .ne 9, 3) := by decide +kernel
theorem dX10_concerned_158 : decode cX10_concerned 158 = .ok (.iconst 1, 1) := by decide +kernel
theorem dX10_concerned_159 : decode cX10_concerned 159 = .ok (.iload_n 3, 1) := by decide +kernel
theorem dX10_concerned_160 : decode cX10_concerned 160 = .ok (.ishl, 1) := by decide +kernel
theorem dX10_concerned_161 : decode cX10_concerned 161 = .ok (.goto 4, 3) := by decide +kernel
theorem dX10_concerned_164 : decode cX10_concerned 164 = .ok (.iconst 0, 1) := by decide +kernel
theorem dX10_concerned_165 : decode cX10_concerned 165 = .ok (.ior, 1) := by decide +kernel
theorem dX10_concerned_166 : decode cX10_concerned 166 = .ok (.istore_n 2, 1) := by decide +kernel
theorem dX10_concerned_167 : decode cX10_concerned 167 = .ok (.iinc 3 1, 3) := by decide +kernel
theorem dX10_concerned_170 : decode cX10_concerned 170 = .ok (.goto (-166), 3) := by decide +kernel
theorem dX10_concerned_173 : decode cX10_concerned 173 = .ok (.iload_n 2, 1) := by decide +kernel
theorem dX10_concerned_174 : decode cX10_concerned 174 = .ok (.ireturn, 1) := by decide +kernel
theorem dX10_arrear_0 : decode cX10_arrear 0 = .ok (.iconst 0, 1) := by decide +kernel
theorem dX10_arrear_1 : decode cX10_arrear 1 = .ok (.istore_n 3, 1) := by decide +kernel
theorem dX10_arrear_2 : decode cX10_arrear 2 = .ok (.aload_n 0, 1) := by decide +kernel
theorem dX10_arrear_3 : decode cX10_arrear 3 = .ok (.getfield 7, 3) := by decide +kernel
theorem dX10_arrear_6 : decode cX10_arrear 6 = .ok (.iload_n 1, 1) := by decide +kernel
theorem dX10_arrear_7 : decode cX10_arrear 7 = .ok (.bipush 6, 2) := by decide +kernel
theorem dX10_arrear_9 : decode cX10_arrear 9 = .ok (.invokestatic 35, 3) := by decide +kernel
theorem dX10_arrear_12 : decode cX10_arrear 12 = .ok (.iaload, 1) := by decide +kernel
theorem dX10_arrear_13 : decode cX10_arrear 13 = .ok (.istore 4, 2) := by decide +kernel
theorem dX10_arrear_15 : decode cX10_arrear 15 = .ok (.iload 4, 2) := by decide +kernel
theorem dX10_arrear_17 : decode cX10_arrear 17 = .ok (.aload_n 0, 1) := by decide +kernel
theorem dX10_arrear_18 : decode cX10_arrear 18 = .ok (.getfield 7, 3) := by decide +kernel
theorem dX10_arrear_21 : decode cX10_arrear 21 = .ok (.iconst 0, 1) := by decide +kernel
theorem dX10_arrear_22 : decode cX10_arrear 22 = .ok (.iaload, 1) := by decide +kernel
theorem dX10_arrear_23 : decode cX10_arrear 23 = .ok (.if_icmp .ge 33, 3) := by decide +kernel
theorem dX10_arrear_26 : decode cX10_arrear 26 = .ok (.aload_n 0, 1) := by decide +kernel
theorem dX10_arrear_27 : decode cX10_arrear 27 = .ok (.iload 4, 2) := by decide +kernel
theorem dX10_arrear_29 : decode cX10_arrear 29 = .ok (.invokevirtual 58, 3) := by decide +kernel
theorem dX10_arrear_32 : decode cX10_arrear 32 = .ok (.iload_n 1, 1) := by decide +kernel
theorem dX10_arrear_33 : decode cX10_arrear 33 = .ok (.invokestatic 54, 3) := by decide +kernel
theorem dX10_arrear_36 : decode cX10_arrear 36 = .ok (.ifCond .eq 14, 3) := by decide +kernel
theorem dX10_arrear_39 : decode cX10_arrear 39 = .ok (.iload_n 3, 1) := by decide +kernel
theorem dX10_arrear_40 : decode cX10_arrear 40 = .ok (.iload_n 2, 1) := by decide +kernel
theorem dX10_arrear_41 : decode cX10_arrear 41 = .ok (.if_icmp .ne 6, 3) := by decide +kernel
theorem dX10_arrear_44 : decode cX10_arrear 44 = .ok (.iload 4, 2) := by decide +kernel
theorem dX10_arrear_46 : decode cX10_arrear 46 = .ok (.ireturn, 1) := by decide +kernel
theorem dX10_arrear_47 : decode cX10_arrear 47 = .ok (.iinc 3 1, 3) := by decide +kernel
theorem dX10_arrear_50 : decode cX10_arrear 50 = .ok (.iinc 4 1, 3) := by decide +kernel
theorem dX10_arrear_53 : decode cX10_arrear 53 = .ok (.goto (-38), 3) := by decide +kernel
theorem dX10_arrear_56 : decode cX10_arrear 56 = .ok (.aload_n 0, 1) := by decide +kernel
theorem dX10_arrear_57 : decode cX10_arrear 57 = .ok (.getfield 7, 3) := by decide +kernel
theorem dX10_arrear_60 : decode cX10_arrear 60 = .ok (.iconst 0, 1) := by decide +kernel
theorem dX10_arrear_61 : decode cX10_arrear 61 = .ok (.iaload, 1) := by decide +kernel
theorem dX10_arrear_62 : decode cX10_arrear 62 = .ok (.ireturn, 1) := by decide +kernel
theorem dX10_arrears_0 : decode cX10_arrears 0 = .ok (.iconst 0, 1) := by decide +kernel
theorem dX10_arrears_1 : decode cX10_arrears 1 = .ok (.istore_n 2, 1) := by decide +kernel
theorem dX10_arrears_2 : decode cX10_arrears 2 = .ok (.aload_n 0, 1) := by decide +kernel
theorem dX10_arrears_3 : decode cX10_arrears 3 = .ok (.getfield 7, 3) := by decide +kernel
theorem dX10_arrears_6 : decode cX10_arrears 6 = .ok (.iload_n 1, 1) := by decide +kernel
theorem dX10_arrears_7 : decode cX10_arrears 7 = .ok (.bipush 6, 2) := by decide +kernel
theorem dX10_arrears_9 : decode cX10_arrears 9 = .ok (.invokestatic 35, 3) := by decide +kernel
theorem dX10_arrears_12 : decode cX10_arrears 12 = .ok (.iaload, 1) := by decide +kernel
theorem dX10_arrears_13 : decode cX10_arrears 13 = .ok (.istore_n 3, 1) := by decide +kernel
theorem dX10_arrears_14 : decode cX10_arrears 14 = .ok (.iload_n 3, 1) := by decide +kernel
theorem dX10_arrears_15 : decode cX10_arrears 15 = .ok (.aload_n 0, 1) := by decide +kernel
theorem dX10_arrears_16 : decode cX10_arrears 16 = .ok (.getfield 7, 3) := by decide +kernel
theorem dX10_arrears_19 : decode cX10_arrears 19 = .ok (.iconst 0, 1) := by decide +kernel
theorem dX10_arrears_20 : decode cX10_arrears 20 = .ok (.iaload, 1) := by decide +kernel
theorem dX10_arrears_21 : decode cX10_arrears 21 = .ok (.if_icmp .ge 37, 3) := by decide +kernel
theorem dX10_arrears_24 : decode cX10_arrears 24 = .ok (.aload_n 0, 1) := by decide +kernel
theorem dX10_arrears_25 : decode cX10_arrears 25 = .ok (.iload_n 1, 1) := by decide +kernel
theorem dX10_arrears_26 : decode cX10_arrears 26 = .ok (.invokevirtual 61, 3) := by decide +kernel
theorem dX10_arrears_29 : decode cX10_arrears 29 = .ok (.ifCond .ne 29, 3) := by decide +kernel
theorem dX10_arrears_32 : decode cX10_arrears 32 = .ok (.iload_n 2, 1) := by decide +kernel
theorem dX10_arrears_33 : decode cX10_arrears 33 = .ok (.aload_n 0, 1) := by decide +kernel
theorem dX10_arrears_34 : decode cX10_arrears 34 = .ok (.iload_n 3, 1) := by decide +kernel
theorem dX10_arrears_35 : decode cX10_arrears 35 = .ok (.invokevirtual 58, 3) := by decide +kernel
theorem dX10_arrears_38 : decode cX10_arrears 38 = .ok (.iload_n 1, 1) := by decide +kernel
theorem dX10_arrears_39 : decode cX10_arrears 39 = .ok (.invokestatic 54, 3) := by decide +kernel
theorem dX10_arrears_42 : decode cX10_arrears 42 = .ok (.ifCond .eq 7, 3) := by decide +kernel
theorem dX10_arrears_45 : decode cX10_arrears 45 = .ok (.iconst 1, 1) := by decide +kernel
theorem dX10_arrears_46 : decode cX10_arrears 46 = .ok (.goto 4, 3) := by decide +kernel
theorem dX10_arrears_49 : decode cX10_arrears 49 = .ok (.iconst 0, 1) := by decide +kernel
theorem dX10_arrears_50 : decode cX10_arrears 50 = .ok (.iadd, 1) := by decide +kernel
theorem dX10_arrears_51 : decode cX10_arrears 51 = .ok (.istore_n 2, 1) := by decide +kernel
theorem dX10_arrears_52 : decode cX10_arrears 52 = .ok (.iinc 3 1, 3) := by decide +kernel
theorem dX10_arrears_55 : decode cX10_arrears 55 = .ok (.goto (-41), 3) := by decide +kernel
theorem dX10_arrears_58 : decode cX10_arrears 58 = .ok (.iload_n 2, 1) := by decide +kernel
theorem dX10_arrears_59 : decode cX10_arrears 59 = .ok (.ireturn, 1) := by decide +kernel
theorem dX10_priceOf_0 : decode cX10_priceOf 0 = .ok (.aload_n 0, 1) := by decide +kernel
theorem dX10_priceOf_1 : decode cX10_priceOf 1 = .ok (.getfield 7, 3) := by decide +kernel
theorem dX10_priceOf_4 : decode cX10_priceOf 4 = .ok (.iload_n 1, 1) := by decide +kernel
theorem dX10_priceOf_5 : decode cX10_priceOf 5 = .ok (.iconst 0, 1) := by decide +kernel
theorem dX10_priceOf_6 : decode cX10_priceOf 6 = .ok (.invokestatic 35, 3) := by decide +kernel
theorem dX10_priceOf_9 : decode cX10_priceOf 9 = .ok (.iaload, 1) := by decide +kernel
theorem dX10_priceOf_10 : decode cX10_priceOf 10 = .ok (.iconst 3, 1) := by decide +kernel
theorem dX10_priceOf_11 : decode cX10_priceOf 11 = .ok (.if_icmp .lt 15, 3) := by decide +kernel
theorem dX10_priceOf_14 : decode cX10_priceOf 14 = .ok (.iconst 2, 1) := by decide +kernel
theorem dX10_priceOf_15 : decode cX10_priceOf 15 = .ok (.aload_n 0, 1) := by decide +kernel
theorem dX10_priceOf_16 : decode cX10_priceOf 16 = .ok (.getfield 7, 3) := by decide +kernel
theorem dX10_priceOf_19 : decode cX10_priceOf 19 = .ok (.bipush 10, 2) := by decide +kernel
theorem dX10_priceOf_21 : decode cX10_priceOf 21 = .ok (.iaload, 1) := by decide +kernel
theorem dX10_priceOf_22 : decode cX10_priceOf 22 = .ok (.imul, 1) := by decide +kernel
theorem dX10_priceOf_23 : decode cX10_priceOf 23 = .ok (.goto 10, 3) := by decide +kernel
theorem dX10_priceOf_26 : decode cX10_priceOf 26 = .ok (.aload_n 0, 1) := by decide +kernel
theorem dX10_priceOf_27 : decode cX10_priceOf 27 = .ok (.getfield 7, 3) := by decide +kernel
theorem dX10_priceOf_30 : decode cX10_priceOf 30 = .ok (.bipush 10, 2) := by decide +kernel
theorem dX10_priceOf_32 : decode cX10_priceOf 32 = .ok (.iaload, 1) := by decide +kernel
theorem dX10_priceOf_33 : decode cX10_priceOf 33 = .ok (.ireturn, 1) := by decide +kernel
theorem dX10_need_0 : decode cX10_need 0 = .ok (.aload_n 0, 1) := by decide +kernel
theorem dX10_need_1 : decode cX10_need 1 = .ok (.getfield 7, 3) := by decide +kernel
theorem dX10_need_4 : decode cX10_need 4 = .ok (.iload_n 1, 1) := by decide +kernel
theorem dX10_need_5 : decode cX10_need 5 = .ok (.bipush 7, 2) := by decide +kernel
theorem dX10_need_7 : decode cX10_need 7 = .ok (.invokestatic 35, 3) := by decide +kernel
theorem dX10_need_10 : decode cX10_need 10 = .ok (.iaload, 1) := by decide +kernel
theorem dX10_need_11 : decode cX10_need 11 = .ok (.aload_n 0, 1) := by decide +kernel
theorem dX10_need_12 : decode cX10_need 12 = .ok (.iload_n 1, 1) := by decide +kernel
theorem dX10_need_13 : decode cX10_need 13 = .ok (.invokevirtual 65, 3) := by decide +kernel
theorem dX10_need_16 : decode cX10_need 16 = .ok (.aload_n 0, 1) := by decide +kernel
theorem dX10_need_17 : decode cX10_need 17 = .ok (.iload_n 1, 1) := by decide +kernel
theorem dX10_need_18 : decode cX10_need 18 = .ok (.invokevirtual 68, 3) := by decide +kernel
theorem dX10_need_21 : decode cX10_need 21 = .ok (.imul, 1) := by decide +kernel
theorem dX10_need_22 : decode cX10_need 22 = .ok (.iadd, 1) := by decide +kernel
theorem dX10_need_23 : decode cX10_need 23 = .ok (.ireturn, 1) := by decide +kernel
theorem dX10_keysOf_0 : decode cX10_keysOf 0 = .ok (.iconst 0, 1) := by decide +kernel
theorem dX10_keysOf_1 : decode cX10_keysOf 1 = .ok (.istore_n 2, 1) := by decide +kernel
theorem dX10_keysOf_2 : decode cX10_keysOf 2 = .ok (.iload_n 2, 1) := by decide +kernel
theorem dX10_keysOf_3 : decode cX10_keysOf 3 = .ok (.iload_n 1, 1) := by decide +kernel
theorem dX10_keysOf_4 : decode cX10_keysOf 4 = .ok (.if_icmp .gt 75, 3) := by decide +kernel
theorem dX10_keysOf_7 : decode cX10_keysOf 7 = .ok (.aload_n 0, 1) := by decide +kernel
theorem dX10_keysOf_8 : decode cX10_keysOf 8 = .ok (.getfield 7, 3) := by decide +kernel
theorem dX10_keysOf_11 : decode cX10_keysOf 11 = .ok (.iload_n 2, 1) := by decide +kernel
theorem dX10_keysOf_12 : decode cX10_keysOf 12 = .ok (.iconst 2, 1) := by decide +kernel
theorem dX10_keysOf_13 : decode cX10_keysOf 13 = .ok (.invokestatic 35, 3) := by decide +kernel
theorem dX10_keysOf_16 : decode cX10_keysOf 16 = .ok (.iaload, 1) := by decide +kernel
theorem dX10_keysOf_17 : decode cX10_keysOf 17 = .ok (.istore_n 3, 1) := by decide +kernel
theorem dX10_keysOf_18 : decode cX10_keysOf 18 = .ok (.aload_n 0, 1) := by decide +kernel
theorem dX10_keysOf_19 : decode cX10_keysOf 19 = .ok (.getfield 7, 3) := by decide +kernel
theorem dX10_keysOf_22 : decode cX10_keysOf 22 = .ok (.iload_n 2, 1) := by decide +kernel
theorem dX10_keysOf_23 : decode cX10_keysOf 23 = .ok (.iconst 3, 1) := by decide +kernel
theorem dX10_keysOf_24 : decode cX10_keysOf 24 = .ok (.invokestatic 35, 3) := by decide +kernel
theorem dX10_keysOf_27 : decode cX10_keysOf 27 = .ok (.iaload, 1) := by decide +kernel
theorem dX10_keysOf_28 : decode cX10_keysOf 28 = .ok (.istore 4, 2) := by decide +kernel
theorem dX10_keysOf_30 : decode cX10_keysOf 30 = .ok (.aload_n 0, 1) := by decide +kernel
theorem dX10_keysOf_31 : decode cX10_keysOf 31 = .ok (.getfield 25, 3) := by decide +kernel
theorem dX10_keysOf_34 : decode cX10_keysOf 34 = .ok (.iload_n 2, 1) := by decide +kernel
theorem dX10_keysOf_35 : decode cX10_keysOf 35 = .ok (.aload_n 0, 1) := by decide +kernel
theorem dX10_keysOf_36 : decode cX10_keysOf 36 = .ok (.getfield 7, 3) := by decide +kernel
theorem dX10_keysOf_39 : decode cX10_keysOf 39 = .ok (.iload_n 2, 1) := by decide +kernel
theorem dX10_keysOf_40 : decode cX10_keysOf 40 = .ok (.iconst 0, 1) := by decide +kernel
theorem dX10_keysOf_41 : decode cX10_keysOf 41 = .ok (.invokestatic 35, 3) := by decide +kernel
theorem dX10_keysOf_44 : decode cX10_keysOf 44 = .ok (.iaload, 1) := by decide +kernel
theorem dX10_keysOf_45 : decode cX10_keysOf 45 = .ok (.iconst 4, 1) := by decide +kernel
theorem dX10_keysOf_46 : decode cX10_keysOf 46 = .ok (.if_icmp .ne 20, 3) := by decide +kernel
theorem dX10_keysOf_49 : decode cX10_keysOf 49 = .ok (.aload_n 0, 1) := by decide +kernel
theorem dX10_keysOf_50 : decode cX10_keysOf 50 = .ok (.getfield 25, 3) := by decide +kernel
theorem dX10_keysOf_53 : decode cX10_keysOf 53 = .ok (.iload_n 3, 1) := by decide +kernel
theorem dX10_keysOf_54 : decode cX10_keysOf 54 = .ok (.iaload, 1) := by decide +kernel
theorem dX10_keysOf_55 : decode cX10_keysOf 55 = .ok (.aload_n 0, 1) := by decide +kernel
theorem dX10_keysOf_56 : decode cX10_keysOf 56 = .ok (.getfield 25, 3) := by decide +kernel
theorem dX10_keysOf_59 : decode cX10_keysOf 59 = .ok (.iload 4, 2) := by decide +kernel
theorem dX10_keysOf_61 : decode cX10_keysOf 61 = .ok (.iaload, 1) := by decide +kernel
theorem dX10_keysOf_62 : decode cX10_keysOf 62 = .ok (.iadd, 1) := by decide +kernel
theorem dX10_keysOf_63 : decode cX10_keysOf 63 = .ok (.goto 9, 3) := by decide +kernel
theorem dX10_keysOf_66 : decode cX10_keysOf 66 = .ok (.iload 4, 2) := by decide +kernel
theorem dX10_keysOf_68 : decode cX10_keysOf 68 = .ok (.iload_n 3, 1) := by decide +kernel
theorem dX10_keysOf_69 : decode cX10_keysOf 69 = .ok (.isub, 1) := by decide +kernel
theorem dX10_keysOf_70 : decode cX10_keysOf 70 = .ok (.iconst 1, 1) := by decide +kernel
theorem dX10_keysOf_71 : decode cX10_keysOf 71 = .ok (.iadd, 1) := by decide +kernel
theorem dX10_keysOf_72 : decode cX10_keysOf 72 = .ok (.iastore, 1) := by decide +kernel
theorem dX10_keysOf_73 : decode cX10_keysOf 73 = .ok (.iinc 2 1, 3) := by decide +kernel
theorem dX10_keysOf_76 : decode cX10_keysOf 76 = .ok (.goto (-74), 3) := by decide +kernel
theorem dX10_keysOf_79 : decode cX10_keysOf 79 = .ok (.aload_n 0, 1) := by decide +kernel
theorem dX10_keysOf_80 : decode cX10_keysOf 80 = .ok (.getfield 25, 3) := by decide +kernel
theorem dX10_keysOf_83 : decode cX10_keysOf 83 = .ok (.iload_n 1, 1) := by decide +kernel
theorem dX10_keysOf_84 : decode cX10_keysOf 84 = .ok (.iaload, 1) := by decide +kernel
theorem dX10_keysOf_85 : decode cX10_keysOf 85 = .ok (.ireturn, 1) := by decide +kernel
theorem dX10_put_0 : decode cX10_put 0 = .ok (.iload_n 1, 1) := by decide +kernel
theorem dX10_put_1 : decode cX10_put 1 = .ok (.iconst 0, 1) := by decide +kernel
theorem dX10_put_2 : decode cX10_put 2 = .ok (.iconst 1, 1) := by decide +kernel
theorem dX10_put_3 : decode cX10_put 3 = .ok (.invokestatic 31, 3) := by decide +kernel
theorem dX10_put_6 : decode cX10_put 6 = .ok (.ifCond .eq 23, 3) := by decide +kernel
theorem dX10_put_9 : decode cX10_put 9 = .ok (.iload_n 2, 1) := by decide +kernel
theorem dX10_put_10 : decode cX10_put 10 = .ok (.iconst 0, 1) := by decide +kernel
theorem dX10_put_11 : decode cX10_put 11 = .ok (.bipush 11, 2) := by decide +kernel
theorem dX10_put_13 : decode cX10_put 13 = .ok (.invokestatic 31, 3) := by decide +kernel
theorem dX10_put_16 : decode cX10_put 16 = .ok (.ifCond .eq 13, 3) := by decide +kernel
theorem dX10_put_19 : decode cX10_put 19 = .ok (.iload_n 3, 1) := by decide +kernel
theorem dX10_put_20 : decode cX10_put 20 = .ok (.iconst (-1), 1) := by decide +kernel
theorem dX10_put_21 : decode cX10_put 21 = .ok (.bipush 99, 2) := by decide +kernel
theorem dX10_put_23 : decode cX10_put 23 = .ok (.invokestatic 31, 3) := by decide +kernel
theorem dX10_put_26 : decode cX10_put 26 = .ok (.ifCond .ne 6, 3) := by decide +kernel
theorem dX10_put_29 : decode cX10_put 29 = .ok (.ldc 71, 2) := by decide +kernel
theorem dX10_put_31 : decode cX10_put 31 = .ok (.ireturn, 1) := by decide +kernel
theorem dX10_put_32 : decode cX10_put 32 = .ok (.aload_n 0, 1) := by decide +kernel
theorem dX10_put_33 : decode cX10_put 33 = .ok (.getfield 7, 3) := by decide +kernel
theorem dX10_put_36 : decode cX10_put 36 = .ok (.iconst 0, 1) := by decide +kernel
theorem dX10_put_37 : decode cX10_put 37 = .ok (.iaload, 1) := by decide +kernel
theorem dX10_put_38 : decode cX10_put 38 = .ok (.sipush 200, 3) := by decide +kernel
theorem dX10_put_41 : decode cX10_put 41 = .ok (.if_icmp .ne 6, 3) := by decide +kernel
theorem dX10_put_44 : decode cX10_put 44 = .ok (.ldc 72, 2) := by decide +kernel
theorem dX10_put_46 : decode cX10_put 46 = .ok (.ireturn, 1) := by decide +kernel
theorem dX10_put_47 : decode cX10_put 47 = .ok (.aload_n 0, 1) := by decide +kernel
theorem dX10_put_48 : decode cX10_put 48 = .ok (.invokevirtual 73, 3) := by decide +kernel
theorem dX10_put_51 : decode cX10_put 51 = .ok (.aload_n 0, 1) := by decide +kernel
theorem dX10_put_52 : decode cX10_put 52 = .ok (.getfield 7, 3) := by decide +kernel
theorem dX10_put_55 : decode cX10_put 55 = .ok (.iconst 0, 1) := by decide +kernel
theorem dX10_put_56 : decode cX10_put 56 = .ok (.iaload, 1) := by decide +kernel
theorem dX10_put_57 : decode cX10_put 57 = .ok (.istore 4, 2) := by decide +kernel
theorem dX10_put_59 : decode cX10_put 59 = .ok (.aload_n 0, 1) := by decide +kernel
theorem dX10_put_60 : decode cX10_put 60 = .ok (.getfield 7, 3) := by decide +kernel
theorem dX10_put_63 : decode cX10_put 63 = .ok (.iload 4, 2) := by decide +kernel
theorem dX10_put_65 : decode cX10_put 65 = .ok (.iconst 0, 1) := by decide +kernel
theorem dX10_put_66 : decode cX10_put 66 = .ok (.invokestatic 43, 3) := by decide +kernel
theorem dX10_put_69 : decode cX10_put 69 = .ok (.iload_n 1, 1) := by decide +kernel
theorem dX10_put_70 : decode cX10_put 70 = .ok (.iastore, 1) := by decide +kernel
theorem dX10_put_71 : decode cX10_put 71 = .ok (.aload_n 0, 1) := by decide +kernel
theorem dX10_put_72 : decode cX10_put 72 = .ok (.getfield 7, 3) := by decide +kernel
theorem dX10_put_75 : decode cX10_put 75 = .ok (.iload 4, 2) := by decide +kernel
theorem dX10_put_77 : decode cX10_put 77 = .ok (.iconst 1, 1) := by decide +kernel
theorem dX10_put_78 : decode cX10_put 78 = .ok (.invokestatic 43, 3) := by decide +kernel
theorem dX10_put_81 : decode cX10_put 81 = .ok (.iload_n 2, 1) := by decide +kernel
theorem dX10_put_82 : decode cX10_put 82 = .ok (.iastore, 1) := by decide +kernel
theorem dX10_put_83 : decode cX10_put 83 = .ok (.aload_n 0, 1) := by decide +kernel
theorem dX10_put_84 : decode cX10_put 84 = .ok (.getfield 7, 3) := by decide +kernel
theorem dX10_put_87 : decode cX10_put 87 = .ok (.iload 4, 2) := by decide +kernel
theorem dX10_put_89 : decode cX10_put 89 = .ok (.iconst 2, 1) := by decide +kernel
theorem dX10_put_90 : decode cX10_put 90 = .ok (.invokestatic 43, 3) := by decide +kernel
theorem dX10_put_93 : decode cX10_put 93 = .ok (.iload_n 3, 1) := by decide +kernel
theorem dX10_put_94 : decode cX10_put 94 = .ok (.iastore, 1) := by decide +kernel
theorem dX10_put_95 : decode cX10_put 95 = .ok (.aload_n 0, 1) := by decide +kernel
theorem dX10_put_96 : decode cX10_put 96 = .ok (.getfield 7, 3) := by decide +kernel
theorem dX10_put_99 : decode cX10_put 99 = .ok (.iconst 0, 1) := by decide +kernel
theorem dX10_put_100 : decode cX10_put 100 = .ok (.dup2, 1) := by decide +kernel
theorem dX10_put_101 : decode cX10_put 101 = .ok (.iaload, 1) := by decide +kernel
theorem dX10_put_102 : decode cX10_put 102 = .ok (.iconst 1, 1) := by decide +kernel
theorem dX10_put_103 : decode cX10_put 103 = .ok (.iadd, 1) := by decide +kernel
theorem dX10_put_104 : decode cX10_put 104 = .ok (.iastore, 1) := by decide +kernel
theorem dX10_put_105 : decode cX10_put 105 = .ok (.iload 4, 2) := by decide +kernel
theorem dX10_put_107 : decode cX10_put 107 = .ok (.ireturn, 1) := by decide +kernel
theorem dX10_isMadeOf_0 : decode cX10_isMadeOf 0 = .ok (.aload_n 0, 1) := by decide +kernel
theorem dX10_isMadeOf_1 : decode cX10_isMadeOf 1 = .ok (.iload_n 1, 1) := by decide +kernel
theorem dX10_isMadeOf_2 : decode cX10_isMadeOf 2 = .ok (.invokevirtual 76, 3) := by decide +kernel
theorem dX10_isMadeOf_5 : decode cX10_isMadeOf 5 = .ok (.ifCond .eq 49, 3) := by decide +kernel
theorem dX10_isMadeOf_8 : decode cX10_isMadeOf 8 = .ok (.aload_n 0, 1) := by decide +kernel
theorem dX10_isMadeOf_9 : decode cX10_isMadeOf 9 = .ok (.getfield 7, 3) := by decide +kernel
theorem dX10_isMadeOf_12 : decode cX10_isMadeOf 12 = .ok (.iload_n 1, 1) := by decide +kernel
theorem dX10_isMadeOf_13 : decode cX10_isMadeOf 13 = .ok (.iconst 0, 1) := by decide +kernel
theorem dX10_isMadeOf_14 : decode cX10_isMadeOf 14 = .ok (.invokestatic 35, 3) := by decide +kernel
theorem dX10_isMadeOf_17 : decode cX10_isMadeOf 17 = .ok (.iaload, 1) := by decide +kernel
theorem dX10_isMadeOf_18 : decode cX10_isMadeOf 18 = .ok (.iconst 4, 1) := by decide +kernel
theorem dX10_isMadeOf_19 : decode cX10_isMadeOf 19 = .ok (.if_icmp .ne 35, 3) := by decide +kernel
theorem dX10_isMadeOf_22 : decode cX10_isMadeOf 22 = .ok (.aload_n 0, 1) := by decide +kernel
theorem dX10_isMadeOf_23 : decode cX10_isMadeOf 23 = .ok (.getfield 7, 3) := by decide +kernel
theorem dX10_isMadeOf_26 : decode cX10_isMadeOf 26 = .ok (.iload_n 1, 1) := by decide +kernel
theorem dX10_isMadeOf_27 : decode cX10_isMadeOf 27 = .ok (.iconst 2, 1) := by decide +kernel
theorem dX10_isMadeOf_28 : decode cX10_isMadeOf 28 = .ok (.invokestatic 35, 3) := by decide +kernel
theorem dX10_isMadeOf_31 : decode cX10_isMadeOf 31 = .ok (.iaload, 1) := by decide +kernel
theorem dX10_isMadeOf_32 : decode cX10_isMadeOf 32 = .ok (.iload_n 2, 1) := by decide +kernel
theorem dX10_isMadeOf_33 : decode cX10_isMadeOf 33 = .ok (.if_icmp .eq 17, 3) := by decide +kernel
theorem dX10_isMadeOf_36 : decode cX10_isMadeOf 36 = .ok (.aload_n 0, 1) := by decide +kernel
theorem dX10_isMadeOf_37 : decode cX10_isMadeOf 37 = .ok (.getfield 7, 3) := by decide +kernel
theorem dX10_isMadeOf_40 : decode cX10_isMadeOf 40 = .ok (.iload_n 1, 1) := by decide +kernel
theorem dX10_isMadeOf_41 : decode cX10_isMadeOf 41 = .ok (.iconst 3, 1) := by decide +kernel
theorem dX10_isMadeOf_42 : decode cX10_isMadeOf 42 = .ok (.invokestatic 35, 3) := by decide +kernel
theorem dX10_isMadeOf_45 : decode cX10_isMadeOf 45 = .ok (.iaload, 1) := by decide +kernel
theorem dX10_isMadeOf_46 : decode cX10_isMadeOf 46 = .ok (.iload_n 2, 1) := by decide +kernel
theorem dX10_isMadeOf_47 : decode cX10_isMadeOf 47 = .ok (.if_icmp .ne 7, 3) := by decide +kernel
theorem dX10_isMadeOf_50 : decode cX10_isMadeOf 50 = .ok (.iconst 1, 1) := by decide +kernel
theorem dX10_isMadeOf_51 : decode cX10_isMadeOf 51 = .ok (.goto 4, 3) := by decide +kernel
theorem dX10_isMadeOf_54 : decode cX10_isMadeOf 54 = .ok (.iconst 0, 1) := by decide +kernel
theorem dX10_isMadeOf_55 : decode cX10_isMadeOf 55 = .ok (.ireturn, 1) := by decide +kernel
theorem dX10_views_0 : decode cX10_views 0 = .ok (.iconst 0, 1) := by decide +kernel
theorem dX10_views_1 : decode cX10_views 1 = .ok (.istore_n 1, 1) := by decide +kernel
theorem dX10_views_2 : decode cX10_views 2 = .ok (.iconst 0, 1) := by decide +kernel
theorem dX10_views_3 : decode cX10_views 3 = .ok (.istore_n 2, 1) := by decide +kernel
theorem dX10_views_4 : decode cX10_views 4 = .ok (.iload_n 2, 1) := by decide +kernel
theorem dX10_views_5 : decode cX10_views 5 = .ok (.aload_n 0, 1) := by decide +kernel
theorem dX10_views_6 : decode cX10_views 6 = .ok (.getfield 7, 3) := by decide +kernel
theorem dX10_views_9 : decode cX10_views 9 = .ok (.iconst 1, 1) := by decide +kernel
theorem dX10_views_10 : decode cX10_views 10 = .ok (.iaload, 1) := by decide +kernel
theorem dX10_views_11 : decode cX10_views 11 = .ok (.if_icmp .ge 22, 3) := by decide +kernel
theorem dX10_views_14 : decode cX10_views 14 = .ok (.iload_n 1, 1) := by decide +kernel
theorem dX10_views_15 : decode cX10_views 15 = .ok (.aload_n 0, 1) := by decide +kernel
theorem dX10_views_16 : decode cX10_views 16 = .ok (.getfield 7, 3) := by decide +kernel
theorem dX10_views_19 : decode cX10_views 19 = .ok (.iload_n 2, 1) := by decide +kernel
theorem dX10_views_20 : decode cX10_views 20 = .ok (.iconst 4, 1) := by decide +kernel
theorem dX10_views_21 : decode cX10_views 21 = .ok (.invokestatic 35, 3) := by decide +kernel
theorem dX10_views_24 : decode cX10_views 24 = .ok (.iaload, 1) := by decide +kernel
theorem dX10_views_25 : decode cX10_views 25 = .ok (.iadd, 1) := by decide +kernel
theorem dX10_views_26 : decode cX10_views 26 = .ok (.istore_n 1, 1) := by decide +kernel
theorem dX10_views_27 : decode cX10_views 27 = .ok (.iinc 2 1, 3) := by decide +kernel
theorem dX10_views_30 : decode cX10_views 30 = .ok (.goto (-26), 3) := by decide +kernel
theorem dX10_views_33 : decode cX10_views 33 = .ok (.iload_n 1, 1) := by decide +kernel
theorem dX10_views_34 : decode cX10_views 34 = .ok (.ireturn, 1) := by decide +kernel
theorem dX10_drop_0 : decode cX10_drop 0 = .ok (.aload_n 0, 1) := by decide +kernel
theorem dX10_drop_1 : decode cX10_drop 1 = .ok (.iload_n 1, 1) := by decide +kernel
theorem dX10_drop_2 : decode cX10_drop 2 = .ok (.invokevirtual 76, 3) := by decide +kernel
theorem dX10_drop_5 : decode cX10_drop 5 = .ok (.ifCond .ne 6, 3) := by decide +kernel
theorem dX10_drop_8 : decode cX10_drop 8 = .ok (.ldc 71, 2) := by decide +kernel
theorem dX10_drop_10 : decode cX10_drop 10 = .ok (.ireturn, 1) := by decide +kernel
theorem dX10_drop_11 : decode cX10_drop 11 = .ok (.iconst 0, 1) := by decide +kernel
theorem dX10_drop_12 : decode cX10_drop 12 = .ok (.istore_n 2, 1) := by decide +kernel
theorem dX10_drop_13 : decode cX10_drop 13 = .ok (.iload_n 2, 1) := by decide +kernel
theorem dX10_drop_14 : decode cX10_drop 14 = .ok (.aload_n 0, 1) := by decide +kernel
theorem dX10_drop_15 : decode cX10_drop 15 = .ok (.getfield 7, 3) := by decide +kernel
theorem dX10_drop_18 : decode cX10_drop 18 = .ok (.iconst 1, 1) := by decide +kernel
theorem dX10_drop_19 : decode cX10_drop 19 = .ok (.iaload, 1) := by decide +kernel
theorem dX10_drop_20 : decode cX10_drop 20 = .ok (.if_icmp .ge 21, 3) := by decide +kernel
theorem dX10_drop_23 : decode cX10_drop 23 = .ok (.aload_n 0, 1) := by decide +kernel
theorem dX10_drop_24 : decode cX10_drop 24 = .ok (.iload_n 2, 1) := by decide +kernel
theorem dX10_drop_25 : decode cX10_drop 25 = .ok (.iload_n 1, 1) := by decide +kernel
theorem dX10_drop_26 : decode cX10_drop 26 = .ok (.invokevirtual 79, 3) := by decide +kernel
theorem dX10_drop_29 : decode cX10_drop 29 = .ok (.ifCond .eq 6, 3) := by decide +kernel
theorem dX10_drop_32 : decode cX10_drop 32 = .ok (.ldc 82, 2) := by decide +kernel
theorem dX10_drop_34 : decode cX10_drop 34 = .ok (.ireturn, 1) := by decide +kernel
theorem dX10_drop_35 : decode cX10_drop 35 = .ok (.iinc 2 1, 3) := by decide +kernel
theorem dX10_drop_38 : decode cX10_drop 38 = .ok (.goto (-25), 3) := by decide +kernel
theorem dX10_drop_41 : decode cX10_drop 41 = .ok (.aload_n 0, 1) := by decide +kernel
theorem dX10_drop_42 : decode cX10_drop 42 = .ok (.invokevirtual 73, 3) := by decide +kernel
theorem dX10_drop_45 : decode cX10_drop 45 = .ok (.aload_n 0, 1) := by decide +kernel
theorem dX10_drop_46 : decode cX10_drop 46 = .ok (.getfield 7, 3) := by decide +kernel
theorem dX10_drop_49 : decode cX10_drop 49 = .ok (.iload_n 1, 1) := by decide +kernel
theorem dX10_drop_50 : decode cX10_drop 50 = .ok (.iconst 4, 1) := by decide +kernel
theorem dX10_drop_51 : decode cX10_drop 51 = .ok (.invokestatic 35, 3) := by decide +kernel
theorem dX10_drop_54 : decode cX10_drop 54 = .ok (.iconst 0, 1) := by decide +kernel
theorem dX10_drop_55 : decode cX10_drop 55 = .ok (.iastore, 1) := by decide +kernel
theorem dX10_drop_56 : decode cX10_drop 56 = .ok (.aload_n 0, 1) := by decide +kernel
theorem dX10_drop_57 : decode cX10_drop 57 = .ok (.getfield 7, 3) := by decide +kernel
theorem dX10_drop_60 : decode cX10_drop 60 = .ok (.iload_n 1, 1) := by decide +kernel
theorem dX10_drop_61 : decode cX10_drop 61 = .ok (.bipush 7, 2) := by decide +kernel
theorem dX10_drop_63 : decode cX10_drop 63 = .ok (.invokestatic 35, 3) := by decide +kernel
theorem dX10_drop_66 : decode cX10_drop 66 = .ok (.iconst 0, 1) := by decide +kernel
theorem dX10_drop_67 : decode cX10_drop 67 = .ok (.iastore, 1) := by decide +kernel
theorem dX10_drop_68 : decode cX10_drop 68 = .ok (.aload_n 0, 1) := by decide +kernel
theorem dX10_drop_69 : decode cX10_drop 69 = .ok (.invokevirtual 83, 3) := by decide +kernel
theorem dX10_drop_72 : decode cX10_drop 72 = .ok (.ireturn, 1) := by decide +kernel
theorem dX10_isSetting_0 : decode cX10_isSetting 0 = .ok (.iload_n 0, 1) := by decide +kernel
theorem dX10_isSetting_1 : decode cX10_isSetting 1 = .ok (.tableswitch 86 0 5 #[39, 47, 55, 64, 72, 79], 39) := by decide +kernel
theorem dX10_isSetting_40 : decode cX10_isSetting 40 = .ok (.iload_n 1, 1) := by decide +kernel
theorem dX10_isSetting_41 : decode cX10_isSetting 41 = .ok (.iconst 0, 1) := by decide +kernel
theorem dX10_isSetting_42 : decode cX10_isSetting 42 = .ok (.bipush 20, 2) := by decide +kernel
theorem dX10_isSetting_44 : decode cX10_isSetting 44 = .ok (.invokestatic 31, 3) := by decide +kernel
theorem dX10_isSetting_47 : decode cX10_isSetting 47 = .ok (.ireturn, 1) := by decide +kernel
theorem dX10_isSetting_48 : decode cX10_isSetting 48 = .ok (.iload_n 1, 1) := by decide +kernel
theorem dX10_isSetting_49 : decode cX10_isSetting 49 = .ok (.iconst 1, 1) := by decide +kernel
theorem dX10_isSetting_50 : decode cX10_isSetting 50 = .ok (.bipush 20, 2) := by decide +kernel
theorem dX10_isSetting_52 : decode cX10_isSetting 52 = .ok (.invokestatic 31, 3) := by decide +kernel
theorem dX10_isSetting_55 : decode cX10_isSetting 55 = .ok (.ireturn, 1) := by decide +kernel
theorem dX10_isSetting_56 : decode cX10_isSetting 56 = .ok (.iload_n 1, 1) := by decide +kernel
theorem dX10_isSetting_57 : decode cX10_isSetting 57 = .ok (.iconst 0, 1) := by decide +kernel
theorem dX10_isSetting_58 : decode cX10_isSetting 58 = .ok (.sipush 500, 3) := by decide +kernel
theorem dX10_isSetting_61 : decode cX10_isSetting 61 = .ok (.invokestatic 31, 3) := by decide +kernel
theorem dX10_isSetting_64 : decode cX10_isSetting 64 = .ok (.ireturn, 1) := by decide +kernel
theorem dX10_isSetting_65 : decode cX10_isSetting 65 = .ok (.iload_n 1, 1) := by decide +kernel
theorem dX10_isSetting_66 : decode cX10_isSetting 66 = .ok (.iconst 0, 1) := by decide +kernel
theorem dX10_isSetting_67 : decode cX10_isSetting 67 = .ok (.bipush 100, 2) := by decide +kernel
theorem dX10_isSetting_69 : decode cX10_isSetting 69 = .ok (.invokestatic 31, 3) := by decide +kernel
theorem dX10_isSetting_72 : decode cX10_isSetting 72 = .ok (.ireturn, 1) := by decide +kernel
theorem dX10_isSetting_73 : decode cX10_isSetting 73 = .ok (.iload_n 1, 1) := by decide +kernel
theorem dX10_isSetting_74 : decode cX10_isSetting 74 = .ok (.iconst 0, 1) := by decide +kernel
theorem dX10_isSetting_75 : decode cX10_isSetting 75 = .ok (.iconst 1, 1) := by decide +kernel
theorem dX10_isSetting_76 : decode cX10_isSetting 76 = .ok (.invokestatic 31, 3) := by decide +kernel
theorem dX10_isSetting_79 : decode cX10_isSetting 79 = .ok (.ireturn, 1) := by decide +kernel
theorem dX10_isSetting_80 : decode cX10_isSetting 80 = .ok (.iload_n 1, 1) := by decide +kernel
theorem dX10_isSetting_81 : decode cX10_isSetting 81 = .ok (.iconst 0, 1) := by decide +kernel
theorem dX10_isSetting_82 : decode cX10_isSetting 82 = .ok (.iconst 2, 1) := by decide +kernel
theorem dX10_isSetting_83 : decode cX10_isSetting 83 = .ok (.invokestatic 31, 3) := by decide +kernel
theorem dX10_isSetting_86 : decode cX10_isSetting 86 = .ok (.ireturn, 1) := by decide +kernel
theorem dX10_isSetting_87 : decode cX10_isSetting 87 = .ok (.iconst 0, 1) := by decide +kernel
theorem dX10_isSetting_88 : decode cX10_isSetting 88 = .ok (.ireturn, 1) := by decide +kernel
theorem dX10_set_0 : decode cX10_set 0 = .ok (.iload_n 1, 1) := by decide +kernel
theorem dX10_set_1 : decode cX10_set 1 = .ok (.iload_n 2, 1) := by decide +kernel
theorem dX10_set_2 : decode cX10_set 2 = .ok (.invokestatic 87, 3) := by decide +kernel
theorem dX10_set_5 : decode cX10_set 5 = .ok (.ifCond .ne 6, 3) := by decide +kernel
theorem dX10_set_8 : decode cX10_set 8 = .ok (.ldc 71, 2) := by decide +kernel
theorem dX10_set_10 : decode cX10_set 10 = .ok (.ireturn, 1) := by decide +kernel
theorem dX10_set_11 : decode cX10_set 11 = .ok (.aload_n 0, 1) := by decide +kernel
theorem dX10_set_12 : decode cX10_set 12 = .ok (.invokevirtual 73, 3) := by decide +kernel
theorem dX10_set_15 : decode cX10_set 15 = .ok (.aload_n 0, 1) := by decide +kernel
theorem dX10_set_16 : decode cX10_set 16 = .ok (.getfield 7, 3) := by decide +kernel
theorem dX10_set_19 : decode cX10_set 19 = .ok (.bipush 9, 2) := by decide +kernel
theorem dX10_set_21 : decode cX10_set 21 = .ok (.iload_n 1, 1) := by decide +kernel
theorem dX10_set_22 : decode cX10_set 22 = .ok (.iadd, 1) := by decide +kernel
theorem dX10_set_23 : decode cX10_set 23 = .ok (.iaload, 1) := by decide +kernel
theorem dX10_set_24 : decode cX10_set 24 = .ok (.istore_n 3, 1) := by decide +kernel
end
section
theorem dX10_set_25 : decode cX10_set 25 = .ok (.aload_n 0, 1) := by decide +kernel
theorem dX10_set_26 : decode cX10_set 26 = .ok (.getfield 7, 3) := by decide +kernel
theorem dX10_set_29 : decode cX10_set 29 = .ok (.bipush 9, 2) := by decide +kernel
theorem dX10_set_31 : decode cX10_set 31 = .ok (.iload_n 1, 1) := by decide +kernel
theorem dX10_set_32 : decode cX10_set 32 = .ok (.iadd, 1) := by decide +kernel
theorem dX10_set_33 : decode cX10_set 33 = .ok (.iload_n 2, 1) := by decide +kernel
theorem dX10_set_34 : decode cX10_set 34 = .ok (.iastore, 1) := by decide +kernel
theorem dX10_set_35 : decode cX10_set 35 = .ok (.iload_n 3, 1) := by decide +kernel
theorem dX10_set_36 : decode cX10_set 36 = .ok (.ireturn, 1) := by decide +kernel
theorem dX10_grant_0 : decode cX10_grant 0 = .ok (.iload_n 1, 1) := by decide +kernel
theorem dX10_grant_1 : decode cX10_grant 1 = .ok (.iconst 1, 1) := by decide +kernel
theorem dX10_grant_2 : decode cX10_grant 2 = .ok (.sipush 999, 3) := by decide +kernel
theorem dX10_grant_5 : decode cX10_grant 5 = .ok (.invokestatic 31, 3) := by decide +kernel
theorem dX10_grant_8 : decode cX10_grant 8 = .ok (.ifCond .ne 6, 3) := by decide +kernel
theorem dX10_grant_11 : decode cX10_grant 11 = .ok (.ldc 71, 2) := by decide +kernel
theorem dX10_grant_13 : decode cX10_grant 13 = .ok (.ireturn, 1) := by decide +kernel
theorem dX10_grant_14 : decode cX10_grant 14 = .ok (.aload_n 0, 1) := by decide +kernel
theorem dX10_grant_15 : decode cX10_grant 15 = .ok (.getfield 7, 3) := by decide +kernel
theorem dX10_grant_18 : decode cX10_grant 18 = .ok (.iconst 2, 1) := by decide +kernel
theorem dX10_grant_19 : decode cX10_grant 19 = .ok (.iaload, 1) := by decide +kernel
theorem dX10_grant_20 : decode cX10_grant 20 = .ok (.iload_n 1, 1) := by decide +kernel
theorem dX10_grant_21 : decode cX10_grant 21 = .ok (.iadd, 1) := by decide +kernel
theorem dX10_grant_22 : decode cX10_grant 22 = .ok (.sipush 9999, 3) := by decide +kernel
theorem dX10_grant_25 : decode cX10_grant 25 = .ok (.if_icmp .le 6, 3) := by decide +kernel
theorem dX10_grant_28 : decode cX10_grant 28 = .ok (.ldc 72, 2) := by decide +kernel
theorem dX10_grant_30 : decode cX10_grant 30 = .ok (.ireturn, 1) := by decide +kernel
theorem dX10_grant_31 : decode cX10_grant 31 = .ok (.aload_n 0, 1) := by decide +kernel
theorem dX10_grant_32 : decode cX10_grant 32 = .ok (.invokevirtual 73, 3) := by decide +kernel
theorem dX10_grant_35 : decode cX10_grant 35 = .ok (.aload_n 0, 1) := by decide +kernel
theorem dX10_grant_36 : decode cX10_grant 36 = .ok (.getfield 7, 3) := by decide +kernel
theorem dX10_grant_39 : decode cX10_grant 39 = .ok (.iconst 2, 1) := by decide +kernel
theorem dX10_grant_40 : decode cX10_grant 40 = .ok (.dup2, 1) := by decide +kernel
theorem dX10_grant_41 : decode cX10_grant 41 = .ok (.iaload, 1) := by decide +kernel
theorem dX10_grant_42 : decode cX10_grant 42 = .ok (.iload_n 1, 1) := by decide +kernel
theorem dX10_grant_43 : decode cX10_grant 43 = .ok (.iadd, 1) := by decide +kernel
theorem dX10_grant_44 : decode cX10_grant 44 = .ok (.iastore, 1) := by decide +kernel
theorem dX10_grant_45 : decode cX10_grant 45 = .ok (.aload_n 0, 1) := by decide +kernel
theorem dX10_grant_46 : decode cX10_grant 46 = .ok (.getfield 7, 3) := by decide +kernel
theorem dX10_grant_49 : decode cX10_grant 49 = .ok (.iconst 3, 1) := by decide +kernel
theorem dX10_grant_50 : decode cX10_grant 50 = .ok (.dup2, 1) := by decide +kernel
theorem dX10_grant_51 : decode cX10_grant 51 = .ok (.iaload, 1) := by decide +kernel
theorem dX10_grant_52 : decode cX10_grant 52 = .ok (.iload_n 1, 1) := by decide +kernel
theorem dX10_grant_53 : decode cX10_grant 53 = .ok (.iadd, 1) := by decide +kernel
theorem dX10_grant_54 : decode cX10_grant 54 = .ok (.iastore, 1) := by decide +kernel
theorem dX10_grant_55 : decode cX10_grant 55 = .ok (.aload_n 0, 1) := by decide +kernel
theorem dX10_grant_56 : decode cX10_grant 56 = .ok (.getfield 7, 3) := by decide +kernel
theorem dX10_grant_59 : decode cX10_grant 59 = .ok (.iconst 2, 1) := by decide +kernel
theorem dX10_grant_60 : decode cX10_grant 60 = .ok (.iaload, 1) := by decide +kernel
theorem dX10_grant_61 : decode cX10_grant 61 = .ok (.ireturn, 1) := by decide +kernel
theorem dX10_tick_0 : decode cX10_tick 0 = .ok (.aload_n 0, 1) := by decide +kernel
theorem dX10_tick_1 : decode cX10_tick 1 = .ok (.getfield 7, 3) := by decide +kernel
theorem dX10_tick_4 : decode cX10_tick 4 = .ok (.iconst 2, 1) := by decide +kernel
theorem dX10_tick_5 : decode cX10_tick 5 = .ok (.iaload, 1) := by decide +kernel
theorem dX10_tick_6 : decode cX10_tick 6 = .ok (.aload_n 0, 1) := by decide +kernel
theorem dX10_tick_7 : decode cX10_tick 7 = .ok (.getfield 7, 3) := by decide +kernel
theorem dX10_tick_10 : decode cX10_tick 10 = .ok (.bipush 12, 2) := by decide +kernel
theorem dX10_tick_12 : decode cX10_tick 12 = .ok (.iaload, 1) := by decide +kernel
theorem dX10_tick_13 : decode cX10_tick 13 = .ok (.iadd, 1) := by decide +kernel
theorem dX10_tick_14 : decode cX10_tick 14 = .ok (.sipush 9999, 3) := by decide +kernel
theorem dX10_tick_17 : decode cX10_tick 17 = .ok (.if_icmp .le 6, 3) := by decide +kernel
theorem dX10_tick_20 : decode cX10_tick 20 = .ok (.ldc 72, 2) := by decide +kernel
theorem dX10_tick_22 : decode cX10_tick 22 = .ok (.ireturn, 1) := by decide +kernel
theorem dX10_tick_23 : decode cX10_tick 23 = .ok (.aload_n 0, 1) := by decide +kernel
theorem dX10_tick_24 : decode cX10_tick 24 = .ok (.invokevirtual 73, 3) := by decide +kernel
theorem dX10_tick_27 : decode cX10_tick 27 = .ok (.iconst 0, 1) := by decide +kernel
theorem dX10_tick_28 : decode cX10_tick 28 = .ok (.istore_n 1, 1) := by decide +kernel
theorem dX10_tick_29 : decode cX10_tick 29 = .ok (.iconst 0, 1) := by decide +kernel
theorem dX10_tick_30 : decode cX10_tick 30 = .ok (.istore_n 2, 1) := by decide +kernel
theorem dX10_tick_31 : decode cX10_tick 31 = .ok (.iload_n 2, 1) := by decide +kernel
theorem dX10_tick_32 : decode cX10_tick 32 = .ok (.aload_n 0, 1) := by decide +kernel
theorem dX10_tick_33 : decode cX10_tick 33 = .ok (.getfield 7, 3) := by decide +kernel
theorem dX10_tick_36 : decode cX10_tick 36 = .ok (.iconst 1, 1) := by decide +kernel
theorem dX10_tick_37 : decode cX10_tick 37 = .ok (.iaload, 1) := by decide +kernel
theorem dX10_tick_38 : decode cX10_tick 38 = .ok (.if_icmp .ge 126, 3) := by decide +kernel
theorem dX10_tick_41 : decode cX10_tick 41 = .ok (.aload_n 0, 1) := by decide +kernel
theorem dX10_tick_42 : decode cX10_tick 42 = .ok (.iload_n 2, 1) := by decide +kernel
theorem dX10_tick_43 : decode cX10_tick 43 = .ok (.invokevirtual 76, 3) := by decide +kernel
theorem dX10_tick_46 : decode cX10_tick 46 = .ok (.ifCond .eq 112, 3) := by decide +kernel
theorem dX10_tick_49 : decode cX10_tick 49 = .ok (.aload_n 0, 1) := by decide +kernel
theorem dX10_tick_50 : decode cX10_tick 50 = .ok (.iload_n 2, 1) := by decide +kernel
theorem dX10_tick_51 : decode cX10_tick 51 = .ok (.invokevirtual 61, 3) := by decide +kernel
theorem dX10_tick_54 : decode cX10_tick 54 = .ok (.ifCond .eq 6, 3) := by decide +kernel
theorem dX10_tick_57 : decode cX10_tick 57 = .ok (.goto 101, 3) := by decide +kernel
theorem dX10_tick_60 : decode cX10_tick 60 = .ok (.aload_n 0, 1) := by decide +kernel
theorem dX10_tick_61 : decode cX10_tick 61 = .ok (.getfield 7, 3) := by decide +kernel
theorem dX10_tick_64 : decode cX10_tick 64 = .ok (.iload_n 2, 1) := by decide +kernel
theorem dX10_tick_65 : decode cX10_tick 65 = .ok (.bipush 7, 2) := by decide +kernel
theorem dX10_tick_67 : decode cX10_tick 67 = .ok (.invokestatic 35, 3) := by decide +kernel
theorem dX10_tick_70 : decode cX10_tick 70 = .ok (.dup2, 1) := by decide +kernel
theorem dX10_tick_71 : decode cX10_tick 71 = .ok (.iaload, 1) := by decide +kernel
theorem dX10_tick_72 : decode cX10_tick 72 = .ok (.aload_n 0, 1) := by decide +kernel
theorem dX10_tick_73 : decode cX10_tick 73 = .ok (.getfield 7, 3) := by decide +kernel
theorem dX10_tick_76 : decode cX10_tick 76 = .ok (.bipush 9, 2) := by decide +kernel
theorem dX10_tick_78 : decode cX10_tick 78 = .ok (.iaload, 1) := by decide +kernel
theorem dX10_tick_79 : decode cX10_tick 79 = .ok (.aload_n 0, 1) := by decide +kernel
theorem dX10_tick_80 : decode cX10_tick 80 = .ok (.iload_n 2, 1) := by decide +kernel
theorem dX10_tick_81 : decode cX10_tick 81 = .ok (.invokevirtual 68, 3) := by decide +kernel
theorem dX10_tick_84 : decode cX10_tick 84 = .ok (.imul, 1) := by decide +kernel
theorem dX10_tick_85 : decode cX10_tick 85 = .ok (.iadd, 1) := by decide +kernel
theorem dX10_tick_86 : decode cX10_tick 86 = .ok (.iastore, 1) := by decide +kernel
theorem dX10_tick_87 : decode cX10_tick 87 = .ok (.aload_n 0, 1) := by decide +kernel
theorem dX10_tick_88 : decode cX10_tick 88 = .ok (.getfield 7, 3) := by decide +kernel
theorem dX10_tick_91 : decode cX10_tick 91 = .ok (.iload_n 2, 1) := by decide +kernel
theorem dX10_tick_92 : decode cX10_tick 92 = .ok (.bipush 7, 2) := by decide +kernel
theorem dX10_tick_94 : decode cX10_tick 94 = .ok (.invokestatic 35, 3) := by decide +kernel
theorem dX10_tick_97 : decode cX10_tick 97 = .ok (.iaload, 1) := by decide +kernel
theorem dX10_tick_98 : decode cX10_tick 98 = .ok (.aload_n 0, 1) := by decide +kernel
theorem dX10_tick_99 : decode cX10_tick 99 = .ok (.getfield 7, 3) := by decide +kernel
theorem dX10_tick_102 : decode cX10_tick 102 = .ok (.bipush 11, 2) := by decide +kernel
theorem dX10_tick_104 : decode cX10_tick 104 = .ok (.iaload, 1) := by decide +kernel
theorem dX10_tick_105 : decode cX10_tick 105 = .ok (.if_icmp .le 53, 3) := by decide +kernel
theorem dX10_tick_108 : decode cX10_tick 108 = .ok (.iload_n 1, 1) := by decide +kernel
theorem dX10_tick_109 : decode cX10_tick 109 = .ok (.iconst 1, 1) := by decide +kernel
theorem dX10_tick_110 : decode cX10_tick 110 = .ok (.iload_n 2, 1) := by decide +kernel
theorem dX10_tick_111 : decode cX10_tick 111 = .ok (.ishl, 1) := by decide +kernel
theorem dX10_tick_112 : decode cX10_tick 112 = .ok (.ior, 1) := by decide +kernel
theorem dX10_tick_113 : decode cX10_tick 113 = .ok (.istore_n 1, 1) := by decide +kernel
theorem dX10_tick_114 : decode cX10_tick 114 = .ok (.aload_n 0, 1) := by decide +kernel
theorem dX10_tick_115 : decode cX10_tick 115 = .ok (.getfield 7, 3) := by decide +kernel
theorem dX10_tick_118 : decode cX10_tick 118 = .ok (.bipush 7, 2) := by decide +kernel
theorem dX10_tick_120 : decode cX10_tick 120 = .ok (.dup2, 1) := by decide +kernel
theorem dX10_tick_121 : decode cX10_tick 121 = .ok (.iaload, 1) := by decide +kernel
theorem dX10_tick_122 : decode cX10_tick 122 = .ok (.aload_n 0, 1) := by decide +kernel
theorem dX10_tick_123 : decode cX10_tick 123 = .ok (.getfield 7, 3) := by decide +kernel
theorem dX10_tick_126 : decode cX10_tick 126 = .ok (.iload_n 2, 1) := by decide +kernel
theorem dX10_tick_127 : decode cX10_tick 127 = .ok (.bipush 7, 2) := by decide +kernel
theorem dX10_tick_129 : decode cX10_tick 129 = .ok (.invokestatic 35, 3) := by decide +kernel
theorem dX10_tick_132 : decode cX10_tick 132 = .ok (.iaload, 1) := by decide +kernel
theorem dX10_tick_133 : decode cX10_tick 133 = .ok (.iadd, 1) := by decide +kernel
theorem dX10_tick_134 : decode cX10_tick 134 = .ok (.iastore, 1) := by decide +kernel
theorem dX10_tick_135 : decode cX10_tick 135 = .ok (.aload_n 0, 1) := by decide +kernel
theorem dX10_tick_136 : decode cX10_tick 136 = .ok (.getfield 7, 3) := by decide +kernel
theorem dX10_tick_139 : decode cX10_tick 139 = .ok (.iload_n 2, 1) := by decide +kernel
theorem dX10_tick_140 : decode cX10_tick 140 = .ok (.bipush 7, 2) := by decide +kernel
theorem dX10_tick_142 : decode cX10_tick 142 = .ok (.invokestatic 35, 3) := by decide +kernel
theorem dX10_tick_145 : decode cX10_tick 145 = .ok (.iconst 0, 1) := by decide +kernel
theorem dX10_tick_146 : decode cX10_tick 146 = .ok (.iastore, 1) := by decide +kernel
theorem dX10_tick_147 : decode cX10_tick 147 = .ok (.aload_n 0, 1) := by decide +kernel
theorem dX10_tick_148 : decode cX10_tick 148 = .ok (.getfield 7, 3) := by decide +kernel
theorem dX10_tick_151 : decode cX10_tick 151 = .ok (.iload_n 2, 1) := by decide +kernel
theorem dX10_tick_152 : decode cX10_tick 152 = .ok (.iconst 5, 1) := by decide +kernel
theorem dX10_tick_153 : decode cX10_tick 153 = .ok (.invokestatic 35, 3) := by decide +kernel
theorem dX10_tick_156 : decode cX10_tick 156 = .ok (.iconst 1, 1) := by decide +kernel
theorem dX10_tick_157 : decode cX10_tick 157 = .ok (.iastore, 1) := by decide +kernel
theorem dX10_tick_158 : decode cX10_tick 158 = .ok (.iinc 2 1, 3) := by decide +kernel
theorem dX10_tick_161 : decode cX10_tick 161 = .ok (.goto (-130), 3) := by decide +kernel
theorem dX10_tick_164 : decode cX10_tick 164 = .ok (.aload_n 0, 1) := by decide +kernel
theorem dX10_tick_165 : decode cX10_tick 165 = .ok (.getfield 7, 3) := by decide +kernel
theorem dX10_tick_168 : decode cX10_tick 168 = .ok (.iconst 2, 1) := by decide +kernel
theorem dX10_tick_169 : decode cX10_tick 169 = .ok (.dup2, 1) := by decide +kernel
theorem dX10_tick_170 : decode cX10_tick 170 = .ok (.iaload, 1) := by decide +kernel
theorem dX10_tick_171 : decode cX10_tick 171 = .ok (.aload_n 0, 1) := by decide +kernel
theorem dX10_tick_172 : decode cX10_tick 172 = .ok (.getfield 7, 3) := by decide +kernel
theorem dX10_tick_175 : decode cX10_tick 175 = .ok (.bipush 12, 2) := by decide +kernel
theorem dX10_tick_177 : decode cX10_tick 177 = .ok (.iaload, 1) := by decide +kernel
theorem dX10_tick_178 : decode cX10_tick 178 = .ok (.iadd, 1) := by decide +kernel
theorem dX10_tick_179 : decode cX10_tick 179 = .ok (.iastore, 1) := by decide +kernel
theorem dX10_tick_180 : decode cX10_tick 180 = .ok (.aload_n 0, 1) := by decide +kernel
theorem dX10_tick_181 : decode cX10_tick 181 = .ok (.getfield 7, 3) := by decide +kernel
theorem dX10_tick_184 : decode cX10_tick 184 = .ok (.iconst 3, 1) := by decide +kernel
theorem dX10_tick_185 : decode cX10_tick 185 = .ok (.dup2, 1) := by decide +kernel
theorem dX10_tick_186 : decode cX10_tick 186 = .ok (.iaload, 1) := by decide +kernel
theorem dX10_tick_187 : decode cX10_tick 187 = .ok (.aload_n 0, 1) := by decide +kernel
theorem dX10_tick_188 : decode cX10_tick 188 = .ok (.getfield 7, 3) := by decide +kernel
theorem dX10_tick_191 : decode cX10_tick 191 = .ok (.bipush 12, 2) := by decide +kernel
theorem dX10_tick_193 : decode cX10_tick 193 = .ok (.iaload, 1) := by decide +kernel
theorem dX10_tick_194 : decode cX10_tick 194 = .ok (.iadd, 1) := by decide +kernel
theorem dX10_tick_195 : decode cX10_tick 195 = .ok (.iastore, 1) := by decide +kernel
theorem dX10_tick_196 : decode cX10_tick 196 = .ok (.aload_n 0, 1) := by decide +kernel
theorem dX10_tick_197 : decode cX10_tick 197 = .ok (.getfield 7, 3) := by decide +kernel
theorem dX10_tick_200 : decode cX10_tick 200 = .ok (.bipush 8, 2) := by decide +kernel
theorem dX10_tick_202 : decode cX10_tick 202 = .ok (.dup2, 1) := by decide +kernel
theorem dX10_tick_203 : decode cX10_tick 203 = .ok (.iaload, 1) := by decide +kernel
theorem dX10_tick_204 : decode cX10_tick 204 = .ok (.iconst 1, 1) := by decide +kernel
theorem dX10_tick_205 : decode cX10_tick 205 = .ok (.iadd, 1) := by decide +kernel
theorem dX10_tick_206 : decode cX10_tick 206 = .ok (.iastore, 1) := by decide +kernel
theorem dX10_tick_207 : decode cX10_tick 207 = .ok (.iload_n 1, 1) := by decide +kernel
theorem dX10_tick_208 : decode cX10_tick 208 = .ok (.ireturn, 1) := by decide +kernel
theorem dX10_spends_0 : decode cX10_spends 0 = .ok (.aload_n 0, 1) := by decide +kernel
theorem dX10_spends_1 : decode cX10_spends 1 = .ok (.getfield 7, 3) := by decide +kernel
theorem dX10_spends_4 : decode cX10_spends 4 = .ok (.iload_n 1, 1) := by decide +kernel
theorem dX10_spends_5 : decode cX10_spends 5 = .ok (.bipush 7, 2) := by decide +kernel
theorem dX10_spends_7 : decode cX10_spends 7 = .ok (.invokestatic 35, 3) := by decide +kernel
theorem dX10_spends_10 : decode cX10_spends 10 = .ok (.iaload, 1) := by decide +kernel
theorem dX10_spends_11 : decode cX10_spends 11 = .ok (.istore_n 3, 1) := by decide +kernel
theorem dX10_spends_12 : decode cX10_spends 12 = .ok (.aload_n 0, 1) := by decide +kernel
theorem dX10_spends_13 : decode cX10_spends 13 = .ok (.iload_n 1, 1) := by decide +kernel
theorem dX10_spends_14 : decode cX10_spends 14 = .ok (.invokevirtual 65, 3) := by decide +kernel
theorem dX10_spends_17 : decode cX10_spends 17 = .ok (.istore 4, 2) := by decide +kernel
theorem dX10_spends_19 : decode cX10_spends 19 = .ok (.aload_n 0, 1) := by decide +kernel
theorem dX10_spends_20 : decode cX10_spends 20 = .ok (.iload_n 1, 1) := by decide +kernel
theorem dX10_spends_21 : decode cX10_spends 21 = .ok (.invokevirtual 68, 3) := by decide +kernel
theorem dX10_spends_24 : decode cX10_spends 24 = .ok (.istore 5, 2) := by decide +kernel
theorem dX10_spends_26 : decode cX10_spends 26 = .ok (.iload_n 2, 1) := by decide +kernel
theorem dX10_spends_27 : decode cX10_spends 27 = .ok (.istore 6, 2) := by decide +kernel
theorem dX10_spends_29 : decode cX10_spends 29 = .ok (.aload_n 0, 1) := by decide +kernel
theorem dX10_spends_30 : decode cX10_spends 30 = .ok (.iconst 0, 1) := by decide +kernel
theorem dX10_spends_31 : decode cX10_spends 31 = .ok (.putfield 90, 3) := by decide +kernel
theorem dX10_spends_34 : decode cX10_spends 34 = .ok (.aload_n 0, 1) := by decide +kernel
theorem dX10_spends_35 : decode cX10_spends 35 = .ok (.getfield 7, 3) := by decide +kernel
theorem dX10_spends_38 : decode cX10_spends 38 = .ok (.bipush 13, 2) := by decide +kernel
theorem dX10_spends_40 : decode cX10_spends 40 = .ok (.iaload, 1) := by decide +kernel
theorem dX10_spends_41 : decode cX10_spends 41 = .ok (.ifCond .ne 28, 3) := by decide +kernel
theorem dX10_spends_44 : decode cX10_spends 44 = .ok (.aload_n 0, 1) := by decide +kernel
theorem dX10_spends_45 : decode cX10_spends 45 = .ok (.iload 6, 2) := by decide +kernel
theorem dX10_spends_47 : decode cX10_spends 47 = .ok (.iload_n 3, 1) := by decide +kernel
theorem dX10_spends_48 : decode cX10_spends 48 = .ok (.if_icmp .ge 8, 3) := by decide +kernel
theorem dX10_spends_51 : decode cX10_spends 51 = .ok (.iload 6, 2) := by decide +kernel
theorem dX10_spends_53 : decode cX10_spends 53 = .ok (.goto 4, 3) := by decide +kernel
theorem dX10_spends_56 : decode cX10_spends 56 = .ok (.iload_n 3, 1) := by decide +kernel
theorem dX10_spends_57 : decode cX10_spends 57 = .ok (.putfield 90, 3) := by decide +kernel
theorem dX10_spends_60 : decode cX10_spends 60 = .ok (.iload 6, 2) := by decide +kernel
theorem dX10_spends_62 : decode cX10_spends 62 = .ok (.aload_n 0, 1) := by decide +kernel
theorem dX10_spends_63 : decode cX10_spends 63 = .ok (.getfield 90, 3) := by decide +kernel
theorem dX10_spends_66 : decode cX10_spends 66 = .ok (.isub, 1) := by decide +kernel
theorem dX10_spends_67 : decode cX10_spends 67 = .ok (.istore 6, 2) := by decide +kernel
theorem dX10_spends_69 : decode cX10_spends 69 = .ok (.iload 6, 2) := by decide +kernel
theorem dX10_spends_71 : decode cX10_spends 71 = .ok (.iload 4, 2) := by decide +kernel
theorem dX10_spends_73 : decode cX10_spends 73 = .ok (.idiv, 1) := by decide +kernel
theorem dX10_spends_74 : decode cX10_spends 74 = .ok (.iload 5, 2) := by decide +kernel
theorem dX10_spends_76 : decode cX10_spends 76 = .ok (.if_icmp .ge 11, 3) := by decide +kernel
theorem dX10_spends_79 : decode cX10_spends 79 = .ok (.iload 6, 2) := by decide +kernel
theorem dX10_spends_81 : decode cX10_spends 81 = .ok (.iload 4, 2) := by decide +kernel
theorem dX10_spends_83 : decode cX10_spends 83 = .ok (.idiv, 1) := by decide +kernel
theorem dX10_spends_84 : decode cX10_spends 84 = .ok (.goto 5, 3) := by decide +kernel
theorem dX10_spends_87 : decode cX10_spends 87 = .ok (.iload 5, 2) := by decide +kernel
theorem dX10_spends_89 : decode cX10_spends 89 = .ok (.istore 7, 2) := by decide +kernel
theorem dX10_spends_91 : decode cX10_spends 91 = .ok (.aload_n 0, 1) := by decide +kernel
theorem dX10_spends_92 : decode cX10_spends 92 = .ok (.iload 4, 2) := by decide +kernel
theorem dX10_spends_94 : decode cX10_spends 94 = .ok (.iload 7, 2) := by decide +kernel
theorem dX10_spends_96 : decode cX10_spends 96 = .ok (.imul, 1) := by decide +kernel
theorem dX10_spends_97 : decode cX10_spends 97 = .ok (.putfield 93, 3) := by decide +kernel
theorem dX10_spends_100 : decode cX10_spends 100 = .ok (.iload 6, 2) := by decide +kernel
theorem dX10_spends_102 : decode cX10_spends 102 = .ok (.aload_n 0, 1) := by decide +kernel
theorem dX10_spends_103 : decode cX10_spends 103 = .ok (.getfield 93, 3) := by decide +kernel
theorem dX10_spends_106 : decode cX10_spends 106 = .ok (.isub, 1) := by decide +kernel
theorem dX10_spends_107 : decode cX10_spends 107 = .ok (.istore 6, 2) := by decide +kernel
theorem dX10_spends_109 : decode cX10_spends 109 = .ok (.aload_n 0, 1) := by decide +kernel
theorem dX10_spends_110 : decode cX10_spends 110 = .ok (.getfield 7, 3) := by decide +kernel
theorem dX10_spends_113 : decode cX10_spends 113 = .ok (.bipush 13, 2) := by decide +kernel
theorem dX10_spends_115 : decode cX10_spends 115 = .ok (.iaload, 1) := by decide +kernel
theorem dX10_spends_116 : decode cX10_spends 116 = .ok (.iconst 1, 1) := by decide +kernel
theorem dX10_spends_117 : decode cX10_spends 117 = .ok (.if_icmp .ne 19, 3) := by decide +kernel
theorem dX10_spends_120 : decode cX10_spends 120 = .ok (.aload_n 0, 1) := by decide +kernel
theorem dX10_spends_121 : decode cX10_spends 121 = .ok (.iload 6, 2) := by decide +kernel
theorem dX10_spends_123 : decode cX10_spends 123 = .ok (.iload_n 3, 1) := by decide +kernel
theorem dX10_spends_124 : decode cX10_spends 124 = .ok (.if_icmp .ge 8, 3) := by decide +kernel
theorem dX10_spends_127 : decode cX10_spends 127 = .ok (.iload 6, 2) := by decide +kernel
theorem dX10_spends_129 : decode cX10_spends 129 = .ok (.goto 4, 3) := by decide +kernel
theorem dX10_spends_132 : decode cX10_spends 132 = .ok (.iload_n 3, 1) := by decide +kernel
theorem dX10_spends_133 : decode cX10_spends 133 = .ok (.putfield 90, 3) := by decide +kernel
theorem dX10_spends_136 : decode cX10_spends 136 = .ok (.return_, 1) := by decide +kernel
theorem dX10_pays_0 : decode cX10_pays 0 = .ok (.aload_n 0, 1) := by decide +kernel
theorem dX10_pays_1 : decode cX10_pays 1 = .ok (.iload_n 1, 1) := by decide +kernel
theorem dX10_pays_2 : decode cX10_pays 2 = .ok (.iload_n 2, 1) := by decide +kernel
theorem dX10_pays_3 : decode cX10_pays 3 = .ok (.aload_n 0, 1) := by decide +kernel
theorem dX10_pays_4 : decode cX10_pays 4 = .ok (.getfield 7, 3) := by decide +kernel
theorem dX10_pays_7 : decode cX10_pays 7 = .ok (.iconst 2, 1) := by decide +kernel
theorem dX10_pays_8 : decode cX10_pays 8 = .ok (.iaload, 1) := by decide +kernel
theorem dX10_pays_9 : decode cX10_pays 9 = .ok (.if_icmp .ge 7, 3) := by decide +kernel
theorem dX10_pays_12 : decode cX10_pays 12 = .ok (.iload_n 2, 1) := by decide +kernel
theorem dX10_pays_13 : decode cX10_pays 13 = .ok (.goto 9, 3) := by decide +kernel
theorem dX10_pays_16 : decode cX10_pays 16 = .ok (.aload_n 0, 1) := by decide +kernel
theorem dX10_pays_17 : decode cX10_pays 17 = .ok (.getfield 7, 3) := by decide +kernel
theorem dX10_pays_20 : decode cX10_pays 20 = .ok (.iconst 2, 1) := by decide +kernel
theorem dX10_pays_21 : decode cX10_pays 21 = .ok (.iaload, 1) := by decide +kernel
theorem dX10_pays_22 : decode cX10_pays 22 = .ok (.invokevirtual 96, 3) := by decide +kernel
theorem dX10_pays_25 : decode cX10_pays 25 = .ok (.aload_n 0, 1) := by decide +kernel
theorem dX10_pays_26 : decode cX10_pays 26 = .ok (.getfield 90, 3) := by decide +kernel
theorem dX10_pays_29 : decode cX10_pays 29 = .ok (.aload_n 0, 1) := by decide +kernel
theorem dX10_pays_30 : decode cX10_pays 30 = .ok (.getfield 93, 3) := by decide +kernel
theorem dX10_pays_33 : decode cX10_pays 33 = .ok (.iadd, 1) := by decide +kernel
theorem dX10_pays_34 : decode cX10_pays 34 = .ok (.istore_n 3, 1) := by decide +kernel
theorem dX10_pays_35 : decode cX10_pays 35 = .ok (.aload_n 0, 1) := by decide +kernel
theorem dX10_pays_36 : decode cX10_pays 36 = .ok (.getfield 7, 3) := by decide +kernel
theorem dX10_pays_39 : decode cX10_pays 39 = .ok (.iload_n 1, 1) := by decide +kernel
theorem dX10_pays_40 : decode cX10_pays 40 = .ok (.bipush 6, 2) := by decide +kernel
theorem dX10_pays_42 : decode cX10_pays 42 = .ok (.invokestatic 35, 3) := by decide +kernel
theorem dX10_pays_45 : decode cX10_pays 45 = .ok (.aload_n 0, 1) := by decide +kernel
theorem dX10_pays_46 : decode cX10_pays 46 = .ok (.iload_n 1, 1) := by decide +kernel
theorem dX10_pays_47 : decode cX10_pays 47 = .ok (.aload_n 0, 1) := by decide +kernel
theorem dX10_pays_48 : decode cX10_pays 48 = .ok (.getfield 93, 3) := by decide +kernel
theorem dX10_pays_51 : decode cX10_pays 51 = .ok (.aload_n 0, 1) := by decide +kernel
theorem dX10_pays_52 : decode cX10_pays 52 = .ok (.iload_n 1, 1) := by decide +kernel
theorem dX10_pays_53 : decode cX10_pays 53 = .ok (.invokevirtual 65, 3) := by decide +kernel
theorem dX10_pays_56 : decode cX10_pays 56 = .ok (.idiv, 1) := by decide +kernel
theorem dX10_pays_57 : decode cX10_pays 57 = .ok (.invokevirtual 100, 3) := by decide +kernel
theorem dX10_pays_60 : decode cX10_pays 60 = .ok (.iastore, 1) := by decide +kernel
theorem dX10_pays_61 : decode cX10_pays 61 = .ok (.aload_n 0, 1) := by decide +kernel
theorem dX10_pays_62 : decode cX10_pays 62 = .ok (.getfield 7, 3) := by decide +kernel
theorem dX10_pays_65 : decode cX10_pays 65 = .ok (.iload_n 1, 1) := by decide +kernel
theorem dX10_pays_66 : decode cX10_pays 66 = .ok (.bipush 7, 2) := by decide +kernel
theorem dX10_pays_68 : decode cX10_pays 68 = .ok (.invokestatic 35, 3) := by decide +kernel
theorem dX10_pays_71 : decode cX10_pays 71 = .ok (.dup2, 1) := by decide +kernel
theorem dX10_pays_72 : decode cX10_pays 72 = .ok (.iaload, 1) := by decide +kernel
theorem dX10_pays_73 : decode cX10_pays 73 = .ok (.aload_n 0, 1) := by decide +kernel
theorem dX10_pays_74 : decode cX10_pays 74 = .ok (.getfield 90, 3) := by decide +kernel
theorem dX10_pays_77 : decode cX10_pays 77 = .ok (.isub, 1) := by decide +kernel
theorem dX10_pays_78 : decode cX10_pays 78 = .ok (.iastore, 1) := by decide +kernel
theorem dX10_pays_79 : decode cX10_pays 79 = .ok (.aload_n 0, 1) := by decide +kernel
theorem dX10_pays_80 : decode cX10_pays 80 = .ok (.getfield 7, 3) := by decide +kernel
theorem dX10_pays_83 : decode cX10_pays 83 = .ok (.iload_n 1, 1) := by decide +kernel
theorem dX10_pays_84 : decode cX10_pays 84 = .ok (.bipush 8, 2) := by decide +kernel
theorem dX10_pays_86 : decode cX10_pays 86 = .ok (.invokestatic 35, 3) := by decide +kernel
theorem dX10_pays_89 : decode cX10_pays 89 = .ok (.dup2, 1) := by decide +kernel
theorem dX10_pays_90 : decode cX10_pays 90 = .ok (.iaload, 1) := by decide +kernel
theorem dX10_pays_91 : decode cX10_pays 91 = .ok (.iload_n 3, 1) := by decide +kernel
theorem dX10_pays_92 : decode cX10_pays 92 = .ok (.iadd, 1) := by decide +kernel
theorem dX10_pays_93 : decode cX10_pays 93 = .ok (.iastore, 1) := by decide +kernel
theorem dX10_pays_94 : decode cX10_pays 94 = .ok (.aload_n 0, 1) := by decide +kernel
theorem dX10_pays_95 : decode cX10_pays 95 = .ok (.getfield 7, 3) := by decide +kernel
theorem dX10_pays_98 : decode cX10_pays 98 = .ok (.iconst 2, 1) := by decide +kernel
theorem dX10_pays_99 : decode cX10_pays 99 = .ok (.dup2, 1) := by decide +kernel
theorem dX10_pays_100 : decode cX10_pays 100 = .ok (.iaload, 1) := by decide +kernel
theorem dX10_pays_101 : decode cX10_pays 101 = .ok (.iload_n 3, 1) := by decide +kernel
theorem dX10_pays_102 : decode cX10_pays 102 = .ok (.isub, 1) := by decide +kernel
theorem dX10_pays_103 : decode cX10_pays 103 = .ok (.iastore, 1) := by decide +kernel
theorem dX10_pays_104 : decode cX10_pays 104 = .ok (.aload_n 0, 1) := by decide +kernel
theorem dX10_pays_105 : decode cX10_pays 105 = .ok (.getfield 7, 3) := by decide +kernel
theorem dX10_pays_108 : decode cX10_pays 108 = .ok (.iconst 4, 1) := by decide +kernel
theorem dX10_pays_109 : decode cX10_pays 109 = .ok (.dup2, 1) := by decide +kernel
theorem dX10_pays_110 : decode cX10_pays 110 = .ok (.iaload, 1) := by decide +kernel
theorem dX10_pays_111 : decode cX10_pays 111 = .ok (.aload_n 0, 1) := by decide +kernel
theorem dX10_pays_112 : decode cX10_pays 112 = .ok (.getfield 90, 3) := by decide +kernel
theorem dX10_pays_115 : decode cX10_pays 115 = .ok (.iadd, 1) := by decide +kernel
theorem dX10_pays_116 : decode cX10_pays 116 = .ok (.iastore, 1) := by decide +kernel
theorem dX10_pays_117 : decode cX10_pays 117 = .ok (.aload_n 0, 1) := by decide +kernel
theorem dX10_pays_118 : decode cX10_pays 118 = .ok (.getfield 7, 3) := by decide +kernel
theorem dX10_pays_121 : decode cX10_pays 121 = .ok (.iconst 5, 1) := by decide +kernel
theorem dX10_pays_122 : decode cX10_pays 122 = .ok (.dup2, 1) := by decide +kernel
theorem dX10_pays_123 : decode cX10_pays 123 = .ok (.iaload, 1) := by decide +kernel
theorem dX10_pays_124 : decode cX10_pays 124 = .ok (.aload_n 0, 1) := by decide +kernel
theorem dX10_pays_125 : decode cX10_pays 125 = .ok (.getfield 93, 3) := by decide +kernel
theorem dX10_pays_128 : decode cX10_pays 128 = .ok (.iadd, 1) := by decide +kernel
theorem dX10_pays_129 : decode cX10_pays 129 = .ok (.iastore, 1) := by decide +kernel
theorem dX10_pays_130 : decode cX10_pays 130 = .ok (.iload_n 3, 1) := by decide +kernel
theorem dX10_pays_131 : decode cX10_pays 131 = .ok (.ireturn, 1) := by decide +kernel
theorem dX10_pay_0 : decode cX10_pay 0 = .ok (.aload_n 0, 1) := by decide +kernel
theorem dX10_pay_1 : decode cX10_pay 1 = .ok (.iload_n 1, 1) := by decide +kernel
theorem dX10_pay_2 : decode cX10_pay 2 = .ok (.invokevirtual 76, 3) := by decide +kernel
theorem dX10_pay_5 : decode cX10_pay 5 = .ok (.ifCond .eq 14, 3) := by decide +kernel
theorem dX10_pay_8 : decode cX10_pay 8 = .ok (.iload_n 2, 1) := by decide +kernel
theorem dX10_pay_9 : decode cX10_pay 9 = .ok (.iconst 1, 1) := by decide +kernel
theorem dX10_pay_10 : decode cX10_pay 10 = .ok (.sipush 999, 3) := by decide +kernel
theorem dX10_pay_13 : decode cX10_pay 13 = .ok (.invokestatic 31, 3) := by decide +kernel
theorem dX10_pay_16 : decode cX10_pay 16 = .ok (.ifCond .ne 6, 3) := by decide +kernel
theorem dX10_pay_19 : decode cX10_pay 19 = .ok (.ldc 71, 2) := by decide +kernel
theorem dX10_pay_21 : decode cX10_pay 21 = .ok (.ireturn, 1) := by decide +kernel
theorem dX10_pay_22 : decode cX10_pay 22 = .ok (.aload_n 0, 1) := by decide +kernel
theorem dX10_pay_23 : decode cX10_pay 23 = .ok (.iload_n 1, 1) := by decide +kernel
theorem dX10_pay_24 : decode cX10_pay 24 = .ok (.invokevirtual 61, 3) := by decide +kernel
theorem dX10_pay_27 : decode cX10_pay 27 = .ok (.ifCond .ne 12, 3) := by decide +kernel
theorem dX10_pay_30 : decode cX10_pay 30 = .ok (.aload_n 0, 1) := by decide +kernel
theorem dX10_pay_31 : decode cX10_pay 31 = .ok (.getfield 7, 3) := by decide +kernel
theorem dX10_pay_34 : decode cX10_pay 34 = .ok (.iconst 2, 1) := by decide +kernel
theorem dX10_pay_35 : decode cX10_pay 35 = .ok (.iaload, 1) := by decide +kernel
theorem dX10_pay_36 : decode cX10_pay 36 = .ok (.ifCond .ne 6, 3) := by decide +kernel
theorem dX10_pay_39 : decode cX10_pay 39 = .ok (.ldc 82, 2) := by decide +kernel
theorem dX10_pay_41 : decode cX10_pay 41 = .ok (.ireturn, 1) := by decide +kernel
theorem dX10_pay_42 : decode cX10_pay 42 = .ok (.aload_n 0, 1) := by decide +kernel
theorem dX10_pay_43 : decode cX10_pay 43 = .ok (.invokevirtual 73, 3) := by decide +kernel
theorem dX10_pay_46 : decode cX10_pay 46 = .ok (.aload_n 0, 1) := by decide +kernel
theorem dX10_pay_47 : decode cX10_pay 47 = .ok (.iload_n 1, 1) := by decide +kernel
theorem dX10_pay_48 : decode cX10_pay 48 = .ok (.iload_n 2, 1) := by decide +kernel
theorem dX10_pay_49 : decode cX10_pay 49 = .ok (.invokevirtual 103, 3) := by decide +kernel
theorem dX10_pay_52 : decode cX10_pay 52 = .ok (.ireturn, 1) := by decide +kernel
theorem dX10_isBehind_0 : decode cX10_isBehind 0 = .ok (.iload_n 3, 1) := by decide +kernel
theorem dX10_isBehind_1 : decode cX10_isBehind 1 = .ok (.ifCond .ne 7, 3) := by decide +kernel
theorem dX10_isBehind_4 : decode cX10_isBehind 4 = .ok (.iconst 0, 1) := by decide +kernel
theorem dX10_isBehind_5 : decode cX10_isBehind 5 = .ok (.goto 45, 3) := by decide +kernel
theorem dX10_isBehind_8 : decode cX10_isBehind 8 = .ok (.iload_n 3, 1) := by decide +kernel
theorem dX10_isBehind_9 : decode cX10_isBehind 9 = .ok (.iconst 1, 1) := by decide +kernel
theorem dX10_isBehind_10 : decode cX10_isBehind 10 = .ok (.if_icmp .ne 29, 3) := by decide +kernel
theorem dX10_isBehind_13 : decode cX10_isBehind 13 = .ok (.aload_n 0, 1) := by decide +kernel
theorem dX10_isBehind_14 : decode cX10_isBehind 14 = .ok (.getfield 7, 3) := by decide +kernel
theorem dX10_isBehind_17 : decode cX10_isBehind 17 = .ok (.iload_n 2, 1) := by decide +kernel
theorem dX10_isBehind_18 : decode cX10_isBehind 18 = .ok (.bipush 7, 2) := by decide +kernel
theorem dX10_isBehind_20 : decode cX10_isBehind 20 = .ok (.invokestatic 35, 3) := by decide +kernel
theorem dX10_isBehind_23 : decode cX10_isBehind 23 = .ok (.iaload, 1) := by decide +kernel
theorem dX10_isBehind_24 : decode cX10_isBehind 24 = .ok (.aload_n 0, 1) := by decide +kernel
theorem dX10_isBehind_25 : decode cX10_isBehind 25 = .ok (.getfield 7, 3) := by decide +kernel
theorem dX10_isBehind_28 : decode cX10_isBehind 28 = .ok (.iload_n 1, 1) := by decide +kernel
theorem dX10_isBehind_29 : decode cX10_isBehind 29 = .ok (.bipush 7, 2) := by decide +kernel
theorem dX10_isBehind_31 : decode cX10_isBehind 31 = .ok (.invokestatic 35, 3) := by decide +kernel
theorem dX10_isBehind_34 : decode cX10_isBehind 34 = .ok (.iaload, 1) := by decide +kernel
theorem dX10_isBehind_35 : decode cX10_isBehind 35 = .ok (.isub, 1) := by decide +kernel
theorem dX10_isBehind_36 : decode cX10_isBehind 36 = .ok (.goto 14, 3) := by decide +kernel
theorem dX10_isBehind_39 : decode cX10_isBehind 39 = .ok (.aload_n 0, 1) := by decide +kernel
theorem dX10_isBehind_40 : decode cX10_isBehind 40 = .ok (.iload_n 1, 1) := by decide +kernel
theorem dX10_isBehind_41 : decode cX10_isBehind 41 = .ok (.invokevirtual 106, 3) := by decide +kernel
theorem dX10_isBehind_44 : decode cX10_isBehind 44 = .ok (.aload_n 0, 1) := by decide +kernel
theorem dX10_isBehind_45 : decode cX10_isBehind 45 = .ok (.iload_n 2, 1) := by decide +kernel
theorem dX10_isBehind_46 : decode cX10_isBehind 46 = .ok (.invokevirtual 106, 3) := by decide +kernel
theorem dX10_isBehind_49 : decode cX10_isBehind 49 = .ok (.isub, 1) := by decide +kernel
theorem dX10_isBehind_50 : decode cX10_isBehind 50 = .ok (.istore 4, 2) := by decide +kernel
theorem dX10_isBehind_52 : decode cX10_isBehind 52 = .ok (.iload 4, 2) := by decide +kernel
theorem dX10_isBehind_54 : decode cX10_isBehind 54 = .ok (.ifCond .gt 13, 3) := by decide +kernel
theorem dX10_isBehind_57 : decode cX10_isBehind 57 = .ok (.iload 4, 2) := by decide +kernel
theorem dX10_isBehind_59 : decode cX10_isBehind 59 = .ok (.ifCond .ne 12, 3) := by decide +kernel
theorem dX10_isBehind_62 : decode cX10_isBehind 62 = .ok (.iload_n 1, 1) := by decide +kernel
theorem dX10_isBehind_63 : decode cX10_isBehind 63 = .ok (.iload_n 2, 1) := by decide +kernel
theorem dX10_isBehind_64 : decode cX10_isBehind 64 = .ok (.if_icmp .le 7, 3) := by decide +kernel
theorem dX10_isBehind_67 : decode cX10_isBehind 67 = .ok (.iconst 1, 1) := by decide +kernel
theorem dX10_isBehind_68 : decode cX10_isBehind 68 = .ok (.goto 4, 3) := by decide +kernel
theorem dX10_isBehind_71 : decode cX10_isBehind 71 = .ok (.iconst 0, 1) := by decide +kernel
theorem dX10_isBehind_72 : decode cX10_isBehind 72 = .ok (.ireturn, 1) := by decide +kernel
theorem dX10_laysTurns_0 : decode cX10_laysTurns 0 = .ok (.iconst 0, 1) := by decide +kernel
theorem dX10_laysTurns_1 : decode cX10_laysTurns 1 = .ok (.istore_n 2, 1) := by decide +kernel
theorem dX10_laysTurns_2 : decode cX10_laysTurns 2 = .ok (.iconst 0, 1) := by decide +kernel
theorem dX10_laysTurns_3 : decode cX10_laysTurns 3 = .ok (.istore_n 3, 1) := by decide +kernel
theorem dX10_laysTurns_4 : decode cX10_laysTurns 4 = .ok (.iload_n 3, 1) := by decide +kernel
theorem dX10_laysTurns_5 : decode cX10_laysTurns 5 = .ok (.aload_n 0, 1) := by decide +kernel
theorem dX10_laysTurns_6 : decode cX10_laysTurns 6 = .ok (.getfield 7, 3) := by decide +kernel
theorem dX10_laysTurns_9 : decode cX10_laysTurns 9 = .ok (.iconst 1, 1) := by decide +kernel
theorem dX10_laysTurns_10 : decode cX10_laysTurns 10 = .ok (.iaload, 1) := by decide +kernel
theorem dX10_laysTurns_11 : decode cX10_laysTurns 11 = .ok (.if_icmp .ge 87, 3) := by decide +kernel
theorem dX10_laysTurns_14 : decode cX10_laysTurns 14 = .ok (.aload_n 0, 1) := by decide +kernel
theorem dX10_laysTurns_15 : decode cX10_laysTurns 15 = .ok (.iload_n 3, 1) := by decide +kernel
theorem dX10_laysTurns_16 : decode cX10_laysTurns 16 = .ok (.invokevirtual 76, 3) := by decide +kernel
theorem dX10_laysTurns_19 : decode cX10_laysTurns 19 = .ok (.ifCond .eq 73, 3) := by decide +kernel
theorem dX10_laysTurns_22 : decode cX10_laysTurns 22 = .ok (.aload_n 0, 1) := by decide +kernel
theorem dX10_laysTurns_23 : decode cX10_laysTurns 23 = .ok (.iload_n 3, 1) := by decide +kernel
theorem dX10_laysTurns_24 : decode cX10_laysTurns 24 = .ok (.invokevirtual 61, 3) := by decide +kernel
theorem dX10_laysTurns_27 : decode cX10_laysTurns 27 = .ok (.ifCond .eq 6, 3) := by decide +kernel
theorem dX10_laysTurns_30 : decode cX10_laysTurns 30 = .ok (.goto 62, 3) := by decide +kernel
theorem dX10_laysTurns_33 : decode cX10_laysTurns 33 = .ok (.iload_n 2, 1) := by decide +kernel
theorem dX10_laysTurns_34 : decode cX10_laysTurns 34 = .ok (.istore 4, 2) := by decide +kernel
theorem dX10_laysTurns_36 : decode cX10_laysTurns 36 = .ok (.iload 4, 2) := by decide +kernel
theorem dX10_laysTurns_38 : decode cX10_laysTurns 38 = .ok (.ifCond .le 43, 3) := by decide +kernel
theorem dX10_laysTurns_41 : decode cX10_laysTurns 41 = .ok (.aload_n 0, 1) := by decide +kernel
theorem dX10_laysTurns_42 : decode cX10_laysTurns 42 = .ok (.aload_n 0, 1) := by decide +kernel
theorem dX10_laysTurns_43 : decode cX10_laysTurns 43 = .ok (.getfield 28, 3) := by decide +kernel
theorem dX10_laysTurns_46 : decode cX10_laysTurns 46 = .ok (.iload 4, 2) := by decide +kernel
theorem dX10_laysTurns_48 : decode cX10_laysTurns 48 = .ok (.iconst 1, 1) := by decide +kernel
theorem dX10_laysTurns_49 : decode cX10_laysTurns 49 = .ok (.isub, 1) := by decide +kernel
theorem dX10_laysTurns_50 : decode cX10_laysTurns 50 = .ok (.iaload, 1) := by decide +kernel
theorem dX10_laysTurns_51 : decode cX10_laysTurns 51 = .ok (.iload_n 3, 1) := by decide +kernel
theorem dX10_laysTurns_52 : decode cX10_laysTurns 52 = .ok (.iload_n 1, 1) := by decide +kernel
theorem dX10_laysTurns_53 : decode cX10_laysTurns 53 = .ok (.invokevirtual 109, 3) := by decide +kernel
theorem dX10_laysTurns_56 : decode cX10_laysTurns 56 = .ok (.ifCond .eq 25, 3) := by decide +kernel
theorem dX10_laysTurns_59 : decode cX10_laysTurns 59 = .ok (.aload_n 0, 1) := by decide +kernel
theorem dX10_laysTurns_60 : decode cX10_laysTurns 60 = .ok (.getfield 28, 3) := by decide +kernel
theorem dX10_laysTurns_63 : decode cX10_laysTurns 63 = .ok (.iload 4, 2) := by decide +kernel
theorem dX10_laysTurns_65 : decode cX10_laysTurns 65 = .ok (.aload_n 0, 1) := by decide +kernel
theorem dX10_laysTurns_66 : decode cX10_laysTurns 66 = .ok (.getfield 28, 3) := by decide +kernel
theorem dX10_laysTurns_69 : decode cX10_laysTurns 69 = .ok (.iload 4, 2) := by decide +kernel
theorem dX10_laysTurns_71 : decode cX10_laysTurns 71 = .ok (.iconst 1, 1) := by decide +kernel
theorem dX10_laysTurns_72 : decode cX10_laysTurns 72 = .ok (.isub, 1) := by decide +kernel
theorem dX10_laysTurns_73 : decode cX10_laysTurns 73 = .ok (.iaload, 1) := by decide +kernel
theorem dX10_laysTurns_74 : decode cX10_laysTurns 74 = .ok (.iastore, 1) := by decide +kernel
theorem dX10_laysTurns_75 : decode cX10_laysTurns 75 = .ok (.iinc 4 (-1), 3) := by decide +kernel
theorem dX10_laysTurns_78 : decode cX10_laysTurns 78 = .ok (.goto (-42), 3) := by decide +kernel
theorem dX10_laysTurns_81 : decode cX10_laysTurns 81 = .ok (.aload_n 0, 1) := by decide +kernel
theorem dX10_laysTurns_82 : decode cX10_laysTurns 82 = .ok (.getfield 28, 3) := by decide +kernel
theorem dX10_laysTurns_85 : decode cX10_laysTurns 85 = .ok (.iload 4, 2) := by decide +kernel
theorem dX10_laysTurns_87 : decode cX10_laysTurns 87 = .ok (.iload_n 3, 1) := by decide +kernel
theorem dX10_laysTurns_88 : decode cX10_laysTurns 88 = .ok (.iastore, 1) := by decide +kernel
theorem dX10_laysTurns_89 : decode cX10_laysTurns 89 = .ok (.iinc 2 1, 3) := by decide +kernel
theorem dX10_laysTurns_92 : decode cX10_laysTurns 92 = .ok (.iinc 3 1, 3) := by decide +kernel
theorem dX10_laysTurns_95 : decode cX10_laysTurns 95 = .ok (.goto (-91), 3) := by decide +kernel
theorem dX10_laysTurns_98 : decode cX10_laysTurns 98 = .ok (.iload_n 2, 1) := by decide +kernel
theorem dX10_laysTurns_99 : decode cX10_laysTurns 99 = .ok (.ireturn, 1) := by decide +kernel
theorem dX10_payAll_0 : decode cX10_payAll 0 = .ok (.aload_n 0, 1) := by decide +kernel
theorem dX10_payAll_1 : decode cX10_payAll 1 = .ok (.getfield 7, 3) := by decide +kernel
theorem dX10_payAll_4 : decode cX10_payAll 4 = .ok (.iconst 2, 1) := by decide +kernel
theorem dX10_payAll_5 : decode cX10_payAll 5 = .ok (.iaload, 1) := by decide +kernel
theorem dX10_payAll_6 : decode cX10_payAll 6 = .ok (.ifCond .ne 6, 3) := by decide +kernel
theorem dX10_payAll_9 : decode cX10_payAll 9 = .ok (.ldc 82, 2) := by decide +kernel
theorem dX10_payAll_11 : decode cX10_payAll 11 = .ok (.ireturn, 1) := by decide +kernel
theorem dX10_payAll_12 : decode cX10_payAll 12 = .ok (.aload_n 0, 1) := by decide +kernel
theorem dX10_payAll_13 : decode cX10_payAll 13 = .ok (.invokevirtual 73, 3) := by decide +kernel
theorem dX10_payAll_16 : decode cX10_payAll 16 = .ok (.aload_n 0, 1) := by decide +kernel
theorem dX10_payAll_17 : decode cX10_payAll 17 = .ok (.aload_n 0, 1) := by decide +kernel
theorem dX10_payAll_18 : decode cX10_payAll 18 = .ok (.getfield 7, 3) := by decide +kernel
theorem dX10_payAll_21 : decode cX10_payAll 21 = .ok (.bipush 14, 2) := by decide +kernel
theorem dX10_payAll_23 : decode cX10_payAll 23 = .ok (.iaload, 1) := by decide +kernel
theorem dX10_payAll_24 : decode cX10_payAll 24 = .ok (.invokevirtual 112, 3) := by decide +kernel
theorem dX10_payAll_27 : decode cX10_payAll 27 = .ok (.istore_n 1, 1) := by decide +kernel
theorem dX10_payAll_28 : decode cX10_payAll 28 = .ok (.iconst 0, 1) := by decide +kernel
theorem dX10_payAll_29 : decode cX10_payAll 29 = .ok (.istore_n 2, 1) := by decide +kernel
theorem dX10_payAll_30 : decode cX10_payAll 30 = .ok (.iconst 0, 1) := by decide +kernel
theorem dX10_payAll_31 : decode cX10_payAll 31 = .ok (.istore_n 3, 1) := by decide +kernel
theorem dX10_payAll_32 : decode cX10_payAll 32 = .ok (.iload_n 3, 1) := by decide +kernel
theorem dX10_payAll_33 : decode cX10_payAll 33 = .ok (.iload_n 1, 1) := by decide +kernel
theorem dX10_payAll_34 : decode cX10_payAll 34 = .ok (.if_icmp .ge 28, 3) := by decide +kernel
theorem dX10_payAll_37 : decode cX10_payAll 37 = .ok (.iload_n 2, 1) := by decide +kernel
theorem dX10_payAll_38 : decode cX10_payAll 38 = .ok (.aload_n 0, 1) := by decide +kernel
theorem dX10_payAll_39 : decode cX10_payAll 39 = .ok (.aload_n 0, 1) := by decide +kernel
theorem dX10_payAll_40 : decode cX10_payAll 40 = .ok (.getfield 28, 3) := by decide +kernel
theorem dX10_payAll_43 : decode cX10_payAll 43 = .ok (.iload_n 3, 1) := by decide +kernel
theorem dX10_payAll_44 : decode cX10_payAll 44 = .ok (.iaload, 1) := by decide +kernel
theorem dX10_payAll_45 : decode cX10_payAll 45 = .ok (.aload_n 0, 1) := by decide +kernel
theorem dX10_payAll_46 : decode cX10_payAll 46 = .ok (.getfield 7, 3) := by decide +kernel
theorem dX10_payAll_49 : decode cX10_payAll 49 = .ok (.iconst 2, 1) := by decide +kernel
theorem dX10_payAll_50 : decode cX10_payAll 50 = .ok (.iaload, 1) := by decide +kernel
theorem dX10_payAll_51 : decode cX10_payAll 51 = .ok (.invokevirtual 103, 3) := by decide +kernel
theorem dX10_payAll_54 : decode cX10_payAll 54 = .ok (.iadd, 1) := by decide +kernel
theorem dX10_payAll_55 : decode cX10_payAll 55 = .ok (.istore_n 2, 1) := by decide +kernel
theorem dX10_payAll_56 : decode cX10_payAll 56 = .ok (.iinc 3 1, 3) := by decide +kernel
theorem dX10_payAll_59 : decode cX10_payAll 59 = .ok (.goto (-27), 3) := by decide +kernel
theorem dX10_payAll_62 : decode cX10_payAll 62 = .ok (.iload_n 2, 1) := by decide +kernel
theorem dX10_payAll_63 : decode cX10_payAll 63 = .ok (.ireturn, 1) := by decide +kernel
theorem dX10_found_0 : decode cX10_found 0 = .ok (.aload_n 0, 1) := by decide +kernel
theorem dX10_found_1 : decode cX10_found 1 = .ok (.iload_n 1, 1) := by decide +kernel
theorem dX10_found_2 : decode cX10_found 2 = .ok (.invokevirtual 76, 3) := by decide +kernel
theorem dX10_found_5 : decode cX10_found 5 = .ok (.ifCond .ne 6, 3) := by decide +kernel
theorem dX10_found_8 : decode cX10_found 8 = .ok (.ldc 71, 2) := by decide +kernel
theorem dX10_found_10 : decode cX10_found 10 = .ok (.ireturn, 1) := by decide +kernel
theorem dX10_found_11 : decode cX10_found 11 = .ok (.iconst 3, 1) := by decide +kernel
theorem dX10_found_12 : decode cX10_found 12 = .ok (.aload_n 0, 1) := by decide +kernel
theorem dX10_found_13 : decode cX10_found 13 = .ok (.getfield 7, 3) := by decide +kernel
theorem dX10_found_16 : decode cX10_found 16 = .ok (.bipush 10, 2) := by decide +kernel
theorem dX10_found_18 : decode cX10_found 18 = .ok (.iaload, 1) := by decide +kernel
theorem dX10_found_19 : decode cX10_found 19 = .ok (.imul, 1) := by decide +kernel
theorem dX10_found_20 : decode cX10_found 20 = .ok (.aload_n 0, 1) := by decide +kernel
theorem dX10_found_21 : decode cX10_found 21 = .ok (.iload_n 1, 1) := by decide +kernel
theorem dX10_found_22 : decode cX10_found 22 = .ok (.invokevirtual 115, 3) := by decide +kernel
theorem dX10_found_25 : decode cX10_found 25 = .ok (.imul, 1) := by decide +kernel
theorem dX10_found_26 : decode cX10_found 26 = .ok (.istore_n 2, 1) := by decide +kernel
theorem dX10_found_27 : decode cX10_found 27 = .ok (.aload_n 0, 1) := by decide +kernel
theorem dX10_found_28 : decode cX10_found 28 = .ok (.iload_n 1, 1) := by decide +kernel
theorem dX10_found_29 : decode cX10_found 29 = .ok (.invokevirtual 61, 3) := by decide +kernel
theorem dX10_found_32 : decode cX10_found 32 = .ok (.ifCond .eq 13, 3) := by decide +kernel
theorem dX10_found_35 : decode cX10_found 35 = .ok (.aload_n 0, 1) := by decide +kernel
theorem dX10_found_36 : decode cX10_found 36 = .ok (.getfield 7, 3) := by decide +kernel
theorem dX10_found_39 : decode cX10_found 39 = .ok (.iconst 2, 1) := by decide +kernel
theorem dX10_found_40 : decode cX10_found 40 = .ok (.iaload, 1) := by decide +kernel
theorem dX10_found_41 : decode cX10_found 41 = .ok (.iload_n 2, 1) := by decide +kernel
theorem dX10_found_42 : decode cX10_found 42 = .ok (.if_icmp .ge 6, 3) := by decide +kernel
theorem dX10_found_45 : decode cX10_found 45 = .ok (.ldc 82, 2) := by decide +kernel
theorem dX10_found_47 : decode cX10_found 47 = .ok (.ireturn, 1) := by decide +kernel
theorem dX10_found_48 : decode cX10_found 48 = .ok (.aload_n 0, 1) := by decide +kernel
theorem dX10_found_49 : decode cX10_found 49 = .ok (.invokevirtual 73, 3) := by decide +kernel
theorem dX10_found_52 : decode cX10_found 52 = .ok (.aload_n 0, 1) := by decide +kernel
theorem dX10_found_53 : decode cX10_found 53 = .ok (.getfield 7, 3) := by decide +kernel
theorem dX10_found_56 : decode cX10_found 56 = .ok (.iconst 2, 1) := by decide +kernel
theorem dX10_found_57 : decode cX10_found 57 = .ok (.dup2, 1) := by decide +kernel
theorem dX10_found_58 : decode cX10_found 58 = .ok (.iaload, 1) := by decide +kernel
theorem dX10_found_59 : decode cX10_found 59 = .ok (.iload_n 2, 1) := by decide +kernel
theorem dX10_found_60 : decode cX10_found 60 = .ok (.isub, 1) := by decide +kernel
theorem dX10_found_61 : decode cX10_found 61 = .ok (.iastore, 1) := by decide +kernel
theorem dX10_found_62 : decode cX10_found 62 = .ok (.aload_n 0, 1) := by decide +kernel
theorem dX10_found_63 : decode cX10_found 63 = .ok (.getfield 7, 3) := by decide +kernel
theorem dX10_found_66 : decode cX10_found 66 = .ok (.bipush 6, 2) := by decide +kernel
theorem dX10_found_68 : decode cX10_found 68 = .ok (.dup2, 1) := by decide +kernel
theorem dX10_found_69 : decode cX10_found 69 = .ok (.iaload, 1) := by decide +kernel
theorem dX10_found_70 : decode cX10_found 70 = .ok (.iload_n 2, 1) := by decide +kernel
theorem dX10_found_71 : decode cX10_found 71 = .ok (.iadd, 1) := by decide +kernel
theorem dX10_found_72 : decode cX10_found 72 = .ok (.iastore, 1) := by decide +kernel
theorem dX10_found_73 : decode cX10_found 73 = .ok (.aload_n 0, 1) := by decide +kernel
theorem dX10_found_74 : decode cX10_found 74 = .ok (.getfield 7, 3) := by decide +kernel
theorem dX10_found_77 : decode cX10_found 77 = .ok (.iload_n 1, 1) := by decide +kernel
theorem dX10_found_78 : decode cX10_found 78 = .ok (.bipush 8, 2) := by decide +kernel
theorem dX10_found_80 : decode cX10_found 80 = .ok (.invokestatic 35, 3) := by decide +kernel
theorem dX10_found_83 : decode cX10_found 83 = .ok (.dup2, 1) := by decide +kernel
theorem dX10_found_84 : decode cX10_found 84 = .ok (.iaload, 1) := by decide +kernel
theorem dX10_found_85 : decode cX10_found 85 = .ok (.iload_n 2, 1) := by decide +kernel
theorem dX10_found_86 : decode cX10_found 86 = .ok (.iadd, 1) := by decide +kernel
theorem dX10_found_87 : decode cX10_found 87 = .ok (.iastore, 1) := by decide +kernel
theorem dX10_found_88 : decode cX10_found 88 = .ok (.aload_n 0, 1) := by decide +kernel
theorem dX10_found_89 : decode cX10_found 89 = .ok (.getfield 7, 3) := by decide +kernel
theorem dX10_found_92 : decode cX10_found 92 = .ok (.iload_n 1, 1) := by decide +kernel
theorem dX10_found_93 : decode cX10_found 93 = .ok (.iconst 5, 1) := by decide +kernel
theorem dX10_found_94 : decode cX10_found 94 = .ok (.invokestatic 35, 3) := by decide +kernel
theorem dX10_found_97 : decode cX10_found 97 = .ok (.iconst 0, 1) := by decide +kernel
theorem dX10_found_98 : decode cX10_found 98 = .ok (.iastore, 1) := by decide +kernel
theorem dX10_found_99 : decode cX10_found 99 = .ok (.aload_n 0, 1) := by decide +kernel
theorem dX10_found_100 : decode cX10_found 100 = .ok (.getfield 7, 3) := by decide +kernel
theorem dX10_found_103 : decode cX10_found 103 = .ok (.iload_n 1, 1) := by decide +kernel
theorem dX10_found_104 : decode cX10_found 104 = .ok (.bipush 6, 2) := by decide +kernel
theorem dX10_found_106 : decode cX10_found 106 = .ok (.invokestatic 35, 3) := by decide +kernel
theorem dX10_found_109 : decode cX10_found 109 = .ok (.aload_n 0, 1) := by decide +kernel
theorem dX10_found_110 : decode cX10_found 110 = .ok (.getfield 7, 3) := by decide +kernel
theorem dX10_found_113 : decode cX10_found 113 = .ok (.iconst 0, 1) := by decide +kernel
theorem dX10_found_114 : decode cX10_found 114 = .ok (.iaload, 1) := by decide +kernel
theorem dX10_found_115 : decode cX10_found 115 = .ok (.iastore, 1) := by decide +kernel
theorem dX10_found_116 : decode cX10_found 116 = .ok (.iload_n 2, 1) := by decide +kernel
theorem dX10_found_117 : decode cX10_found 117 = .ok (.ireturn, 1) := by decide +kernel
theorem dX10_slotAt_0 : decode cX10_slotAt 0 = .ok (.sipush 687, 3) := by decide +kernel
theorem dX10_slotAt_3 : decode cX10_slotAt 3 = .ok (.sipush 688, 3) := by decide +kernel
theorem dX10_slotAt_6 : decode cX10_slotAt 6 = .ok (.iload_n 0, 1) := by decide +kernel
theorem dX10_slotAt_7 : decode cX10_slotAt 7 = .ok (.imul, 1) := by decide +kernel
theorem dX10_slotAt_8 : decode cX10_slotAt 8 = .ok (.iadd, 1) := by decide +kernel
theorem dX10_slotAt_9 : decode cX10_slotAt 9 = .ok (.ireturn, 1) := by decide +kernel
theorem dX10_take_0 : decode cX10_take 0 = .ok (.iload_n 1, 1) := by decide +kernel
theorem dX10_take_1 : decode cX10_take 1 = .ok (.iconst 0, 1) := by decide +kernel
theorem dX10_take_2 : decode cX10_take 2 = .ok (.iconst 1, 1) := by decide +kernel
theorem dX10_take_3 : decode cX10_take 3 = .ok (.invokestatic 31, 3) := by decide +kernel
theorem dX10_take_6 : decode cX10_take 6 = .ok (.ifCond .ne 6, 3) := by decide +kernel
theorem dX10_take_9 : decode cX10_take 9 = .ok (.ldc 71, 2) := by decide +kernel
theorem dX10_take_11 : decode cX10_take 11 = .ok (.ireturn, 1) := by decide +kernel
theorem dX10_take_12 : decode cX10_take 12 = .ok (.aload_n 0, 1) := by decide +kernel
theorem dX10_take_13 : decode cX10_take 13 = .ok (.invokevirtual 73, 3) := by decide +kernel
theorem dX10_take_16 : decode cX10_take 16 = .ok (.aload_n 0, 1) := by decide +kernel
theorem dX10_take_17 : decode cX10_take 17 = .ok (.getfield 7, 3) := by decide +kernel
theorem dX10_take_20 : decode cX10_take 20 = .ok (.iload_n 1, 1) := by decide +kernel
theorem dX10_take_21 : decode cX10_take 21 = .ok (.invokestatic 118, 3) := by decide +kernel
theorem dX10_take_24 : decode cX10_take 24 = .ok (.iconst 1, 1) := by decide +kernel
theorem dX10_take_25 : decode cX10_take 25 = .ok (.iastore, 1) := by decide +kernel
theorem dX10_take_26 : decode cX10_take 26 = .ok (.iconst 0, 1) := by decide +kernel
theorem dX10_take_27 : decode cX10_take 27 = .ok (.istore_n 2, 1) := by decide +kernel
theorem dX10_take_28 : decode cX10_take 28 = .ok (.iload_n 2, 1) := by decide +kernel
theorem dX10_take_29 : decode cX10_take 29 = .ok (.sipush 687, 3) := by decide +kernel
theorem dX10_take_32 : decode cX10_take 32 = .ok (.if_icmp .ge 28, 3) := by decide +kernel
theorem dX10_take_35 : decode cX10_take 35 = .ok (.aload_n 0, 1) := by decide +kernel
theorem dX10_take_36 : decode cX10_take 36 = .ok (.getfield 7, 3) := by decide +kernel
theorem dX10_take_39 : decode cX10_take 39 = .ok (.iload_n 1, 1) := by decide +kernel
theorem dX10_take_40 : decode cX10_take 40 = .ok (.invokestatic 118, 3) := by decide +kernel
theorem dX10_take_43 : decode cX10_take 43 = .ok (.iconst 1, 1) := by decide +kernel
theorem dX10_take_44 : decode cX10_take 44 = .ok (.iadd, 1) := by decide +kernel
theorem dX10_take_45 : decode cX10_take 45 = .ok (.iload_n 2, 1) := by decide +kernel
theorem dX10_take_46 : decode cX10_take 46 = .ok (.iadd, 1) := by decide +kernel
theorem dX10_take_47 : decode cX10_take 47 = .ok (.aload_n 0, 1) := by decide +kernel
theorem dX10_take_48 : decode cX10_take 48 = .ok (.getfield 7, 3) := by decide +kernel
theorem dX10_take_51 : decode cX10_take 51 = .ok (.iload_n 2, 1) := by decide +kernel
theorem dX10_take_52 : decode cX10_take 52 = .ok (.iaload, 1) := by decide +kernel
theorem dX10_take_53 : decode cX10_take 53 = .ok (.iastore, 1) := by decide +kernel
theorem dX10_take_54 : decode cX10_take 54 = .ok (.iinc 2 1, 3) := by decide +kernel
theorem dX10_take_57 : decode cX10_take 57 = .ok (.goto (-29), 3) := by decide +kernel
theorem dX10_take_60 : decode cX10_take 60 = .ok (.aload_n 0, 1) := by decide +kernel
theorem dX10_take_61 : decode cX10_take 61 = .ok (.getfield 7, 3) := by decide +kernel
theorem dX10_take_64 : decode cX10_take 64 = .ok (.iconst 0, 1) := by decide +kernel
theorem dX10_take_65 : decode cX10_take 65 = .ok (.iaload, 1) := by decide +kernel
theorem dX10_take_66 : decode cX10_take 66 = .ok (.ireturn, 1) := by decide +kernel
theorem dX10_restore_0 : decode cX10_restore 0 = .ok (.iload_n 1, 1) := by decide +kernel
theorem dX10_restore_1 : decode cX10_restore 1 = .ok (.iconst 0, 1) := by decide +kernel
theorem dX10_restore_2 : decode cX10_restore 2 = .ok (.iconst 1, 1) := by decide +kernel
theorem dX10_restore_3 : decode cX10_restore 3 = .ok (.invokestatic 31, 3) := by decide +kernel
theorem dX10_restore_6 : decode cX10_restore 6 = .ok (.ifCond .ne 6, 3) := by decide +kernel
theorem dX10_restore_9 : decode cX10_restore 9 = .ok (.ldc 71, 2) := by decide +kernel
theorem dX10_restore_11 : decode cX10_restore 11 = .ok (.ireturn, 1) := by decide +kernel
theorem dX10_restore_12 : decode cX10_restore 12 = .ok (.aload_n 0, 1) := by decide +kernel
theorem dX10_restore_13 : decode cX10_restore 13 = .ok (.getfield 7, 3) := by decide +kernel
theorem dX10_restore_16 : decode cX10_restore 16 = .ok (.iload_n 1, 1) := by decide +kernel
theorem dX10_restore_17 : decode cX10_restore 17 = .ok (.invokestatic 118, 3) := by decide +kernel
theorem dX10_restore_20 : decode cX10_restore 20 = .ok (.iaload, 1) := by decide +kernel
theorem dX10_restore_21 : decode cX10_restore 21 = .ok (.ifCond .ne 6, 3) := by decide +kernel
theorem dX10_restore_24 : decode cX10_restore 24 = .ok (.ldc 82, 2) := by decide +kernel
theorem dX10_restore_26 : decode cX10_restore 26 = .ok (.ireturn, 1) := by decide +kernel
theorem dX10_restore_27 : decode cX10_restore 27 = .ok (.aload_n 0, 1) := by decide +kernel
theorem dX10_restore_28 : decode cX10_restore 28 = .ok (.invokevirtual 73, 3) := by decide +kernel
theorem dX10_restore_31 : decode cX10_restore 31 = .ok (.iconst 0, 1) := by decide +kernel
theorem dX10_restore_32 : decode cX10_restore 32 = .ok (.istore_n 2, 1) := by decide +kernel
theorem dX10_restore_33 : decode cX10_restore 33 = .ok (.iload_n 2, 1) := by decide +kernel
theorem dX10_restore_34 : decode cX10_restore 34 = .ok (.sipush 687, 3) := by decide +kernel
theorem dX10_restore_37 : decode cX10_restore 37 = .ok (.if_icmp .ge 28, 3) := by decide +kernel
theorem dX10_restore_40 : decode cX10_restore 40 = .ok (.aload_n 0, 1) := by decide +kernel
theorem dX10_restore_41 : decode cX10_restore 41 = .ok (.getfield 7, 3) := by decide +kernel
theorem dX10_restore_44 : decode cX10_restore 44 = .ok (.iload_n 2, 1) := by decide +kernel
theorem dX10_restore_45 : decode cX10_restore 45 = .ok (.aload_n 0, 1) := by decide +kernel
theorem dX10_restore_46 : decode cX10_restore 46 = .ok (.getfield 7, 3) := by decide +kernel
theorem dX10_restore_49 : decode cX10_restore 49 = .ok (.iload_n 1, 1) := by decide +kernel
theorem dX10_restore_50 : decode cX10_restore 50 = .ok (.invokestatic 118, 3) := by decide +kernel
theorem dX10_restore_53 : decode cX10_restore 53 = .ok (.iconst 1, 1) := by decide +kernel
theorem dX10_restore_54 : decode cX10_restore 54 = .ok (.iadd, 1) := by decide +kernel
theorem dX10_restore_55 : decode cX10_restore 55 = .ok (.iload_n 2, 1) := by decide +kernel
theorem dX10_restore_56 : decode cX10_restore 56 = .ok (.iadd, 1) := by decide +kernel
theorem dX10_restore_57 : decode cX10_restore 57 = .ok (.iaload, 1) := by decide +kernel
theorem dX10_restore_58 : decode cX10_restore 58 = .ok (.iastore, 1) := by decide +kernel
theorem dX10_restore_59 : decode cX10_restore 59 = .ok (.iinc 2 1, 3) := by decide +kernel
theorem dX10_restore_62 : decode cX10_restore 62 = .ok (.goto (-29), 3) := by decide +kernel
theorem dX10_restore_65 : decode cX10_restore 65 = .ok (.aload_n 0, 1) := by decide +kernel
theorem dX10_restore_66 : decode cX10_restore 66 = .ok (.getfield 7, 3) := by decide +kernel
theorem dX10_restore_69 : decode cX10_restore 69 = .ok (.iconst 0, 1) := by decide +kernel
theorem dX10_restore_70 : decode cX10_restore 70 = .ok (.iaload, 1) := by decide +kernel
theorem dX10_restore_71 : decode cX10_restore 71 = .ok (.ireturn, 1) := by decide +kernel
theorem dX10_undo_0 : decode cX10_undo 0 = .ok (.aload_n 0, 1) := by decide +kernel
theorem dX10_undo_1 : decode cX10_undo 1 = .ok (.getfield 39, 3) := by decide +kernel
theorem dX10_undo_4 : decode cX10_undo 4 = .ok (.ifCond .ne 6, 3) := by decide +kernel
theorem dX10_undo_7 : decode cX10_undo 7 = .ok (.ldc 82, 2) := by decide +kernel
theorem dX10_undo_9 : decode cX10_undo 9 = .ok (.ireturn, 1) := by decide +kernel
theorem dX10_undo_10 : decode cX10_undo 10 = .ok (.aload_n 0, 1) := by decide +kernel
theorem dX10_undo_11 : decode cX10_undo 11 = .ok (.dup, 1) := by decide +kernel
theorem dX10_undo_12 : decode cX10_undo 12 = .ok (.getfield 39, 3) := by decide +kernel
theorem dX10_undo_15 : decode cX10_undo 15 = .ok (.iconst 1, 1) := by decide +kernel
theorem dX10_undo_16 : decode cX10_undo 16 = .ok (.isub, 1) := by decide +kernel
theorem dX10_undo_17 : decode cX10_undo 17 = .ok (.putfield 39, 3) := by decide +kernel
theorem dX10_undo_20 : decode cX10_undo 20 = .ok (.iconst 0, 1) := by decide +kernel
theorem dX10_undo_21 : decode cX10_undo 21 = .ok (.istore_n 1, 1) := by decide +kernel
theorem dX10_undo_22 : decode cX10_undo 22 = .ok (.iload_n 1, 1) := by decide +kernel
theorem dX10_undo_23 : decode cX10_undo 23 = .ok (.sipush 2063, 3) := by decide +kernel
theorem dX10_undo_26 : decode cX10_undo 26 = .ok (.if_icmp .ge 30, 3) := by decide +kernel
theorem dX10_undo_29 : decode cX10_undo 29 = .ok (.aload_n 0, 1) := by decide +kernel
theorem dX10_undo_30 : decode cX10_undo 30 = .ok (.getfield 7, 3) := by decide +kernel
theorem dX10_undo_33 : decode cX10_undo 33 = .ok (.iload_n 1, 1) := by decide +kernel
theorem dX10_undo_34 : decode cX10_undo 34 = .ok (.aload_n 0, 1) := by decide +kernel
theorem dX10_undo_35 : decode cX10_undo 35 = .ok (.getfield 13, 3) := by decide +kernel
theorem dX10_undo_38 : decode cX10_undo 38 = .ok (.sipush 2063, 3) := by decide +kernel
theorem dX10_undo_41 : decode cX10_undo 41 = .ok (.aload_n 0, 1) := by decide +kernel
theorem dX10_undo_42 : decode cX10_undo 42 = .ok (.getfield 39, 3) := by decide +kernel
theorem dX10_undo_45 : decode cX10_undo 45 = .ok (.imul, 1) := by decide +kernel
theorem dX10_undo_46 : decode cX10_undo 46 = .ok (.iload_n 1, 1) := by decide +kernel
theorem dX10_undo_47 : decode cX10_undo 47 = .ok (.iadd, 1) := by decide +kernel
theorem dX10_undo_48 : decode cX10_undo 48 = .ok (.iaload, 1) := by decide +kernel
theorem dX10_undo_49 : decode cX10_undo 49 = .ok (.iastore, 1) := by decide +kernel
theorem dX10_undo_50 : decode cX10_undo 50 = .ok (.iinc 1 1, 3) := by decide +kernel
theorem dX10_undo_53 : decode cX10_undo 53 = .ok (.goto (-31), 3) := by decide +kernel
theorem dX10_undo_56 : decode cX10_undo 56 = .ok (.aload_n 0, 1) := by decide +kernel
theorem dX10_undo_57 : decode cX10_undo 57 = .ok (.getfield 39, 3) := by decide +kernel
theorem dX10_undo_60 : decode cX10_undo 60 = .ok (.ireturn, 1) := by decide +kernel
theorem dX10_append_0 : decode cX10_append 0 = .ok (.iload_n 1, 1) := by decide +kernel
theorem dX10_append_1 : decode cX10_append 1 = .ok (.iconst 1, 1) := by decide +kernel
theorem dX10_append_2 : decode cX10_append 2 = .ok (.sipush 255, 3) := by decide +kernel
theorem dX10_append_5 : decode cX10_append 5 = .ok (.invokestatic 31, 3) := by decide +kernel
theorem dX10_append_8 : decode cX10_append 8 = .ok (.ifCond .ne 6, 3) := by decide +kernel
theorem dX10_append_11 : decode cX10_append 11 = .ok (.ldc 71, 2) := by decide +kernel
theorem dX10_append_13 : decode cX10_append 13 = .ok (.ireturn, 1) := by decide +kernel
theorem dX10_append_14 : decode cX10_append 14 = .ok (.aload_n 0, 1) := by decide +kernel
theorem dX10_append_15 : decode cX10_append 15 = .ok (.getfield 121, 3) := by decide +kernel
theorem dX10_append_18 : decode cX10_append 18 = .ok (.bipush 40, 2) := by decide +kernel
theorem dX10_append_20 : decode cX10_append 20 = .ok (.if_icmp .ne 6, 3) := by decide +kernel
theorem dX10_append_23 : decode cX10_append 23 = .ok (.ldc 72, 2) := by decide +kernel
theorem dX10_append_25 : decode cX10_append 25 = .ok (.ireturn, 1) := by decide +kernel
theorem dX10_append_26 : decode cX10_append 26 = .ok (.aload_n 0, 1) := by decide +kernel
theorem dX10_append_27 : decode cX10_append 27 = .ok (.getfield 16, 3) := by decide +kernel
theorem dX10_append_30 : decode cX10_append 30 = .ok (.aload_n 0, 1) := by decide +kernel
theorem dX10_append_31 : decode cX10_append 31 = .ok (.getfield 121, 3) := by decide +kernel
theorem dX10_append_34 : decode cX10_append 34 = .ok (.iload_n 1, 1) := by decide +kernel
theorem dX10_append_35 : decode cX10_append 35 = .ok (.iastore, 1) := by decide +kernel
theorem dX10_append_36 : decode cX10_append 36 = .ok (.aload_n 0, 1) := by decide +kernel
theorem dX10_append_37 : decode cX10_append 37 = .ok (.dup, 1) := by decide +kernel
theorem dX10_append_38 : decode cX10_append 38 = .ok (.getfield 121, 3) := by decide +kernel
theorem dX10_append_41 : decode cX10_append 41 = .ok (.iconst 1, 1) := by decide +kernel
theorem dX10_append_42 : decode cX10_append 42 = .ok (.iadd, 1) := by decide +kernel
theorem dX10_append_43 : decode cX10_append 43 = .ok (.putfield 121, 3) := by decide +kernel
theorem dX10_append_46 : decode cX10_append 46 = .ok (.aload_n 0, 1) := by decide +kernel
theorem dX10_append_47 : decode cX10_append 47 = .ok (.getfield 121, 3) := by decide +kernel
theorem dX10_append_50 : decode cX10_append 50 = .ok (.ireturn, 1) := by decide +kernel
theorem dX10_clearText_0 : decode cX10_clearText 0 = .ok (.aload_n 0, 1) := by decide +kernel
theorem dX10_clearText_1 : decode cX10_clearText 1 = .ok (.getfield 121, 3) := by decide +kernel
theorem dX10_clearText_4 : decode cX10_clearText 4 = .ok (.istore_n 1, 1) := by decide +kernel
theorem dX10_clearText_5 : decode cX10_clearText 5 = .ok (.aload_n 0, 1) := by decide +kernel
theorem dX10_clearText_6 : decode cX10_clearText 6 = .ok (.iconst 0, 1) := by decide +kernel
theorem dX10_clearText_7 : decode cX10_clearText 7 = .ok (.putfield 121, 3) := by decide +kernel
theorem dX10_clearText_10 : decode cX10_clearText 10 = .ok (.iload_n 1, 1) := by decide +kernel
theorem dX10_clearText_11 : decode cX10_clearText 11 = .ok (.ireturn, 1) := by decide +kernel
theorem dX10_next_0 : decode cX10_next 0 = .ok (.aload_n 0, 1) := by decide +kernel
theorem dX10_next_1 : decode cX10_next 1 = .ok (.getfield 124, 3) := by decide +kernel
theorem dX10_next_4 : decode cX10_next 4 = .ok (.aload_n 0, 1) := by decide +kernel
theorem dX10_next_5 : decode cX10_next 5 = .ok (.getfield 121, 3) := by decide +kernel
theorem dX10_next_8 : decode cX10_next 8 = .ok (.if_icmp .ge 15, 3) := by decide +kernel
theorem dX10_next_11 : decode cX10_next 11 = .ok (.aload_n 0, 1) := by decide +kernel
theorem dX10_next_12 : decode cX10_next 12 = .ok (.getfield 16, 3) := by decide +kernel
theorem dX10_next_15 : decode cX10_next 15 = .ok (.aload_n 0, 1) := by decide +kernel
theorem dX10_next_16 : decode cX10_next 16 = .ok (.getfield 124, 3) := by decide +kernel
theorem dX10_next_19 : decode cX10_next 19 = .ok (.iaload, 1) := by decide +kernel
theorem dX10_next_20 : decode cX10_next 20 = .ok (.goto 4, 3) := by decide +kernel
theorem dX10_next_23 : decode cX10_next 23 = .ok (.iconst (-1), 1) := by decide +kernel
theorem dX10_next_24 : decode cX10_next 24 = .ok (.ireturn, 1) := by decide +kernel
theorem dX10_begins_0 : decode cX10_begins 0 = .ok (.aload_n 0, 1) := by decide +kernel
theorem dX10_begins_1 : decode cX10_begins 1 = .ok (.invokevirtual 127, 3) := by decide +kernel
theorem dX10_begins_4 : decode cX10_begins 4 = .ok (.bipush 32, 2) := by decide +kernel
theorem dX10_begins_6 : decode cX10_begins 6 = .ok (.if_icmp .ne 16, 3) := by decide +kernel
theorem dX10_begins_9 : decode cX10_begins 9 = .ok (.aload_n 0, 1) := by decide +kernel
theorem dX10_begins_10 : decode cX10_begins 10 = .ok (.dup, 1) := by decide +kernel
theorem dX10_begins_11 : decode cX10_begins 11 = .ok (.getfield 124, 3) := by decide +kernel
theorem dX10_begins_14 : decode cX10_begins 14 = .ok (.iconst 1, 1) := by decide +kernel
theorem dX10_begins_15 : decode cX10_begins 15 = .ok (.iadd, 1) := by decide +kernel
theorem dX10_begins_16 : decode cX10_begins 16 = .ok (.putfield 124, 3) := by decide +kernel
theorem dX10_begins_19 : decode cX10_begins 19 = .ok (.goto (-19), 3) := by decide +kernel
theorem dX10_begins_22 : decode cX10_begins 22 = .ok (.aload_n 0, 1) := by decide +kernel
theorem dX10_begins_23 : decode cX10_begins 23 = .ok (.aload_n 0, 1) := by decide +kernel
theorem dX10_begins_24 : decode cX10_begins 24 = .ok (.getfield 124, 3) := by decide +kernel
theorem dX10_begins_27 : decode cX10_begins 27 = .ok (.putfield 130, 3) := by decide +kernel
theorem dX10_begins_30 : decode cX10_begins 30 = .ok (.return_, 1) := by decide +kernel
theorem dX10_allows_0 : decode cX10_allows 0 = .ok (.aload_n 0, 1) := by decide +kernel
theorem dX10_allows_1 : decode cX10_allows 1 = .ok (.getfield 133, 3) := by decide +kernel
theorem dX10_allows_4 : decode cX10_allows 4 = .ok (.ifCond .ge 15, 3) := by decide +kernel
theorem dX10_allows_7 : decode cX10_allows 7 = .ok (.iload_n 1, 1) := by decide +kernel
theorem dX10_allows_8 : decode cX10_allows 8 = .ok (.ifCond .ne 11, 3) := by decide +kernel
theorem dX10_allows_11 : decode cX10_allows 11 = .ok (.aload_n 0, 1) := by decide +kernel
theorem dX10_allows_12 : decode cX10_allows 12 = .ok (.aload_n 0, 1) := by decide +kernel
theorem dX10_allows_13 : decode cX10_allows 13 = .ok (.getfield 130, 3) := by decide +kernel
theorem dX10_allows_16 : decode cX10_allows 16 = .ok (.putfield 133, 3) := by decide +kernel
theorem dX10_allows_19 : decode cX10_allows 19 = .ok (.return_, 1) := by decide +kernel
theorem dX10_word_0 : decode cX10_word 0 = .ok (.aload_n 0, 1) := by decide +kernel
theorem dX10_word_1 : decode cX10_word 1 = .ok (.invokevirtual 136, 3) := by decide +kernel
theorem dX10_word_4 : decode cX10_word 4 = .ok (.iconst 0, 1) := by decide +kernel
theorem dX10_word_5 : decode cX10_word 5 = .ok (.istore_n 1, 1) := by decide +kernel
theorem dX10_word_6 : decode cX10_word 6 = .ok (.aload_n 0, 1) := by decide +kernel
theorem dX10_word_7 : decode cX10_word 7 = .ok (.invokevirtual 127, 3) := by decide +kernel
theorem dX10_word_10 : decode cX10_word 10 = .ok (.bipush 97, 2) := by decide +kernel
theorem dX10_word_12 : decode cX10_word 12 = .ok (.bipush 122, 2) := by decide +kernel
theorem dX10_word_14 : decode cX10_word 14 = .ok (.invokestatic 31, 3) := by decide +kernel
theorem dX10_word_17 : decode cX10_word 17 = .ok (.ifCond .eq 46, 3) := by decide +kernel
theorem dX10_word_20 : decode cX10_word 20 = .ok (.aload_n 0, 1) := by decide +kernel
theorem dX10_word_21 : decode cX10_word 21 = .ok (.getfield 124, 3) := by decide +kernel
theorem dX10_word_24 : decode cX10_word 24 = .ok (.aload_n 0, 1) := by decide +kernel
theorem dX10_word_25 : decode cX10_word 25 = .ok (.getfield 130, 3) := by decide +kernel
theorem dX10_word_28 : decode cX10_word 28 = .ok (.isub, 1) := by decide +kernel
theorem dX10_word_29 : decode cX10_word 29 = .ok (.iconst 5, 1) := by decide +kernel
theorem dX10_word_30 : decode cX10_word 30 = .ok (.if_icmp .ge 18, 3) := by decide +kernel
theorem dX10_word_33 : decode cX10_word 33 = .ok (.bipush 32, 2) := by decide +kernel
theorem dX10_word_35 : decode cX10_word 35 = .ok (.iload_n 1, 1) := by decide +kernel
theorem dX10_word_36 : decode cX10_word 36 = .ok (.imul, 1) := by decide +kernel
theorem dX10_word_37 : decode cX10_word 37 = .ok (.aload_n 0, 1) := by decide +kernel
theorem dX10_word_38 : decode cX10_word 38 = .ok (.invokevirtual 127, 3) := by decide +kernel
theorem dX10_word_41 : decode cX10_word 41 = .ok (.iadd, 1) := by decide +kernel
theorem dX10_word_42 : decode cX10_word 42 = .ok (.bipush 96, 2) := by decide +kernel
theorem dX10_word_44 : decode cX10_word 44 = .ok (.isub, 1) := by decide +kernel
theorem dX10_word_45 : decode cX10_word 45 = .ok (.goto 4, 3) := by decide +kernel
theorem dX10_word_48 : decode cX10_word 48 = .ok (.iconst 0, 1) := by decide +kernel
theorem dX10_word_49 : decode cX10_word 49 = .ok (.istore_n 1, 1) := by decide +kernel
theorem dX10_word_50 : decode cX10_word 50 = .ok (.aload_n 0, 1) := by decide +kernel
theorem dX10_word_51 : decode cX10_word 51 = .ok (.dup, 1) := by decide +kernel
theorem dX10_word_52 : decode cX10_word 52 = .ok (.getfield 124, 3) := by decide +kernel
theorem dX10_word_55 : decode cX10_word 55 = .ok (.iconst 1, 1) := by decide +kernel
theorem dX10_word_56 : decode cX10_word 56 = .ok (.iadd, 1) := by decide +kernel
theorem dX10_word_57 : decode cX10_word 57 = .ok (.putfield 124, 3) := by decide +kernel
theorem dX10_word_60 : decode cX10_word 60 = .ok (.goto (-54), 3) := by decide +kernel
theorem dX10_word_63 : decode cX10_word 63 = .ok (.aload_n 0, 1) := by decide +kernel
theorem dX10_word_64 : decode cX10_word 64 = .ok (.getfield 124, 3) := by decide +kernel
theorem dX10_word_67 : decode cX10_word 67 = .ok (.aload_n 0, 1) := by decide +kernel
theorem dX10_word_68 : decode cX10_word 68 = .ok (.getfield 130, 3) := by decide +kernel
theorem dX10_word_71 : decode cX10_word 71 = .ok (.isub, 1) := by decide +kernel
theorem dX10_word_72 : decode cX10_word 72 = .ok (.bipush 6, 2) := by decide +kernel
theorem dX10_word_74 : decode cX10_word 74 = .ok (.if_icmp .ge 7, 3) := by decide +kernel
theorem dX10_word_77 : decode cX10_word 77 = .ok (.iload_n 1, 1) := by decide +kernel
theorem dX10_word_78 : decode cX10_word 78 = .ok (.goto 4, 3) := by decide +kernel
theorem dX10_word_81 : decode cX10_word 81 = .ok (.iconst 0, 1) := by decide +kernel
theorem dX10_word_82 : decode cX10_word 82 = .ok (.ireturn, 1) := by decide +kernel
theorem dX10_number_0 : decode cX10_number 0 = .ok (.aload_n 0, 1) := by decide +kernel
theorem dX10_number_1 : decode cX10_number 1 = .ok (.invokevirtual 136, 3) := by decide +kernel
theorem dX10_number_4 : decode cX10_number 4 = .ok (.iconst 0, 1) := by decide +kernel
theorem dX10_number_5 : decode cX10_number 5 = .ok (.istore_n 1, 1) := by decide +kernel
theorem dX10_number_6 : decode cX10_number 6 = .ok (.aload_n 0, 1) := by decide +kernel
theorem dX10_number_7 : decode cX10_number 7 = .ok (.invokevirtual 127, 3) := by decide +kernel
theorem dX10_number_10 : decode cX10_number 10 = .ok (.bipush 48, 2) := by decide +kernel
theorem dX10_number_12 : decode cX10_number 12 = .ok (.bipush 57, 2) := by decide +kernel
theorem dX10_number_14 : decode cX10_number 14 = .ok (.invokestatic 31, 3) := by decide +kernel
theorem dX10_number_17 : decode cX10_number 17 = .ok (.ifCond .eq 46, 3) := by decide +kernel
theorem dX10_number_20 : decode cX10_number 20 = .ok (.aload_n 0, 1) := by decide +kernel
theorem dX10_number_21 : decode cX10_number 21 = .ok (.getfield 124, 3) := by decide +kernel
theorem dX10_number_24 : decode cX10_number 24 = .ok (.aload_n 0, 1) := by decide +kernel
theorem dX10_number_25 : decode cX10_number 25 = .ok (.getfield 130, 3) := by decide +kernel
theorem dX10_number_28 : decode cX10_number 28 = .ok (.isub, 1) := by decide +kernel
theorem dX10_number_29 : decode cX10_number 29 = .ok (.iconst 2, 1) := by decide +kernel
theorem dX10_number_30 : decode cX10_number 30 = .ok (.if_icmp .ge 18, 3) := by decide +kernel
theorem dX10_number_33 : decode cX10_number 33 = .ok (.bipush 10, 2) := by decide +kernel
theorem dX10_number_35 : decode cX10_number 35 = .ok (.iload_n 1, 1) := by decide +kernel
theorem dX10_number_36 : decode cX10_number 36 = .ok (.imul, 1) := by decide +kernel
theorem dX10_number_37 : decode cX10_number 37 = .ok (.aload_n 0, 1) := by decide +kernel
theorem dX10_number_38 : decode cX10_number 38 = .ok (.invokevirtual 127, 3) := by decide +kernel
theorem dX10_number_41 : decode cX10_number 41 = .ok (.iadd, 1) := by decide +kernel
theorem dX10_number_42 : decode cX10_number 42 = .ok (.bipush 48, 2) := by decide +kernel
theorem dX10_number_44 : decode cX10_number 44 = .ok (.isub, 1) := by decide +kernel
theorem dX10_number_45 : decode cX10_number 45 = .ok (.goto 4, 3) := by decide +kernel
theorem dX10_number_48 : decode cX10_number 48 = .ok (.iload_n 1, 1) := by decide +kernel
theorem dX10_number_49 : decode cX10_number 49 = .ok (.istore_n 1, 1) := by decide +kernel
theorem dX10_number_50 : decode cX10_number 50 = .ok (.aload_n 0, 1) := by decide +kernel
theorem dX10_number_51 : decode cX10_number 51 = .ok (.dup, 1) := by decide +kernel
theorem dX10_number_52 : decode cX10_number 52 = .ok (.getfield 124, 3) := by decide +kernel
theorem dX10_number_55 : decode cX10_number 55 = .ok (.iconst 1, 1) := by decide +kernel
theorem dX10_number_56 : decode cX10_number 56 = .ok (.iadd, 1) := by decide +kernel
theorem dX10_number_57 : decode cX10_number 57 = .ok (.putfield 124, 3) := by decide +kernel
theorem dX10_number_60 : decode cX10_number 60 = .ok (.goto (-54), 3) := by decide +kernel
theorem dX10_number_63 : decode cX10_number 63 = .ok (.aload_n 0, 1) := by decide +kernel
theorem dX10_number_64 : decode cX10_number 64 = .ok (.getfield 124, 3) := by decide +kernel
theorem dX10_number_67 : decode cX10_number 67 = .ok (.aload_n 0, 1) := by decide +kernel
theorem dX10_number_68 : decode cX10_number 68 = .ok (.getfield 130, 3) := by decide +kernel
theorem dX10_number_71 : decode cX10_number 71 = .ok (.isub, 1) := by decide +kernel
theorem dX10_number_72 : decode cX10_number 72 = .ok (.istore_n 2, 1) := by decide +kernel
theorem dX10_number_73 : decode cX10_number 73 = .ok (.aload_n 0, 1) := by decide +kernel
theorem dX10_number_74 : decode cX10_number 74 = .ok (.iload_n 2, 1) := by decide +kernel
theorem dX10_number_75 : decode cX10_number 75 = .ok (.iconst 1, 1) := by decide +kernel
theorem dX10_number_76 : decode cX10_number 76 = .ok (.if_icmp .eq 22, 3) := by decide +kernel
theorem dX10_number_79 : decode cX10_number 79 = .ok (.iload_n 2, 1) := by decide +kernel
theorem dX10_number_80 : decode cX10_number 80 = .ok (.iconst 2, 1) := by decide +kernel
theorem dX10_number_81 : decode cX10_number 81 = .ok (.if_icmp .ne 21, 3) := by decide +kernel
theorem dX10_number_84 : decode cX10_number 84 = .ok (.aload_n 0, 1) := by decide +kernel
theorem dX10_number_85 : decode cX10_number 85 = .ok (.getfield 16, 3) := by decide +kernel
theorem dX10_number_88 : decode cX10_number 88 = .ok (.aload_n 0, 1) := by decide +kernel
theorem dX10_number_89 : decode cX10_number 89 = .ok (.getfield 130, 3) := by decide +kernel
theorem dX10_number_92 : decode cX10_number 92 = .ok (.iaload, 1) := by decide +kernel
theorem dX10_number_93 : decode cX10_number 93 = .ok (.bipush 48, 2) := by decide +kernel
theorem dX10_number_95 : decode cX10_number 95 = .ok (.if_icmp .eq 7, 3) := by decide +kernel
theorem dX10_number_98 : decode cX10_number 98 = .ok (.iconst 1, 1) := by decide +kernel
theorem dX10_number_99 : decode cX10_number 99 = .ok (.goto 4, 3) := by decide +kernel
theorem dX10_number_102 : decode cX10_number 102 = .ok (.iconst 0, 1) := by decide +kernel
theorem dX10_number_103 : decode cX10_number 103 = .ok (.invokevirtual 139, 3) := by decide +kernel
theorem dX10_number_106 : decode cX10_number 106 = .ok (.iload_n 1, 1) := by decide +kernel
theorem dX10_number_107 : decode cX10_number 107 = .ok (.ireturn, 1) := by decide +kernel
theorem dX10_sign_0 : decode cX10_sign 0 = .ok (.aload_n 0, 1) := by decide +kernel
theorem dX10_sign_1 : decode cX10_sign 1 = .ok (.invokevirtual 136, 3) := by decide +kernel
theorem dX10_sign_4 : decode cX10_sign 4 = .ok (.aload_n 0, 1) := by decide +kernel
theorem dX10_sign_5 : decode cX10_sign 5 = .ok (.aload_n 0, 1) := by decide +kernel
theorem dX10_sign_6 : decode cX10_sign 6 = .ok (.invokevirtual 127, 3) := by decide +kernel
theorem dX10_sign_9 : decode cX10_sign 9 = .ok (.iload_n 1, 1) := by decide +kernel
theorem dX10_sign_10 : decode cX10_sign 10 = .ok (.if_icmp .ne 7, 3) := by decide +kernel
theorem dX10_sign_13 : decode cX10_sign 13 = .ok (.iconst 1, 1) := by decide +kernel
theorem dX10_sign_14 : decode cX10_sign 14 = .ok (.goto 4, 3) := by decide +kernel
theorem dX10_sign_17 : decode cX10_sign 17 = .ok (.iconst 0, 1) := by decide +kernel
theorem dX10_sign_18 : decode cX10_sign 18 = .ok (.invokevirtual 139, 3) := by decide +kernel
theorem dX10_sign_21 : decode cX10_sign 21 = .ok (.aload_n 0, 1) := by decide +kernel
theorem dX10_sign_22 : decode cX10_sign 22 = .ok (.dup, 1) := by decide +kernel
theorem dX10_sign_23 : decode cX10_sign 23 = .ok (.getfield 124, 3) := by decide +kernel
theorem dX10_sign_26 : decode cX10_sign 26 = .ok (.iconst 1, 1) := by decide +kernel
theorem dX10_sign_27 : decode cX10_sign 27 = .ok (.iadd, 1) := by decide +kernel
theorem dX10_sign_28 : decode cX10_sign 28 = .ok (.putfield 124, 3) := by decide +kernel
theorem dX10_sign_31 : decode cX10_sign 31 = .ok (.return_, 1) := by decide +kernel
theorem dX10_readsTable_0 : decode cX10_readsTable 0 = .ok (.aload_n 0, 1) := by decide +kernel
theorem dX10_readsTable_1 : decode cX10_readsTable 1 = .ok (.invokevirtual 143, 3) := by decide +kernel
theorem dX10_readsTable_4 : decode cX10_readsTable 4 = .ok (.istore_n 1, 1) := by decide +kernel
theorem dX10_readsTable_5 : decode cX10_readsTable 5 = .ok (.aload_n 0, 1) := by decide +kernel
theorem dX10_readsTable_6 : decode cX10_readsTable 6 = .ok (.iload_n 1, 1) := by decide +kernel
theorem dX10_readsTable_7 : decode cX10_readsTable 7 = .ok (.iconst 1, 1) := by decide +kernel
theorem dX10_readsTable_8 : decode cX10_readsTable 8 = .ok (.if_icmp .eq 8, 3) := by decide +kernel
theorem dX10_readsTable_11 : decode cX10_readsTable 11 = .ok (.iload_n 1, 1) := by decide +kernel
theorem dX10_readsTable_12 : decode cX10_readsTable 12 = .ok (.iconst 2, 1) := by decide +kernel
theorem dX10_readsTable_13 : decode cX10_readsTable 13 = .ok (.if_icmp .ne 7, 3) := by decide +kernel
theorem dX10_readsTable_16 : decode cX10_readsTable 16 = .ok (.iconst 1, 1) := by decide +kernel
theorem dX10_readsTable_17 : decode cX10_readsTable 17 = .ok (.goto 4, 3) := by decide +kernel
theorem dX10_readsTable_20 : decode cX10_readsTable 20 = .ok (.iconst 0, 1) := by decide +kernel
theorem dX10_readsTable_21 : decode cX10_readsTable 21 = .ok (.invokevirtual 139, 3) := by decide +kernel
theorem dX10_readsTable_24 : decode cX10_readsTable 24 = .ok (.aload_n 0, 1) := by decide +kernel
theorem dX10_readsTable_25 : decode cX10_readsTable 25 = .ok (.iload_n 1, 1) := by decide +kernel
theorem dX10_readsTable_26 : decode cX10_readsTable 26 = .ok (.iconst 1, 1) := by decide +kernel
theorem dX10_readsTable_27 : decode cX10_readsTable 27 = .ok (.isub, 1) := by decide +kernel
theorem dX10_readsTable_28 : decode cX10_readsTable 28 = .ok (.putfield 146, 3) := by decide +kernel
theorem dX10_readsTable_31 : decode cX10_readsTable 31 = .ok (.return_, 1) := by decide +kernel
theorem dX10_kindOf_0 : decode cX10_kindOf 0 = .ok (.iload_n 1, 1) := by decide +kernel
theorem dX10_kindOf_1 : decode cX10_kindOf 1 = .ok (.lookupswitch 61 #[(20141, 51), (343342, 57), (398963, 59), (441972, 55), (3659220, 53)], 51) := by decide +kernel
theorem dX10_kindOf_52 : decode cX10_kindOf 52 = .ok (.iconst 0, 1) := by decide +kernel
theorem dX10_kindOf_53 : decode cX10_kindOf 53 = .ok (.ireturn, 1) := by decide +kernel
theorem dX10_kindOf_54 : decode cX10_kindOf 54 = .ok (.iconst 1, 1) := by decide +kernel
theorem dX10_kindOf_55 : decode cX10_kindOf 55 = .ok (.ireturn, 1) := by decide +kernel
theorem dX10_kindOf_56 : decode cX10_kindOf 56 = .ok (.iconst 2, 1) := by decide +kernel
theorem dX10_kindOf_57 : decode cX10_kindOf 57 = .ok (.ireturn, 1) := by decide +kernel
theorem dX10_kindOf_58 : decode cX10_kindOf 58 = .ok (.iconst 3, 1) := by decide +kernel
theorem dX10_kindOf_59 : decode cX10_kindOf 59 = .ok (.ireturn, 1) := by decide +kernel
theorem dX10_kindOf_60 : decode cX10_kindOf 60 = .ok (.iconst 4, 1) := by decide +kernel
theorem dX10_kindOf_61 : decode cX10_kindOf 61 = .ok (.ireturn, 1) := by decide +kernel
theorem dX10_kindOf_62 : decode cX10_kindOf 62 = .ok (.iconst (-1), 1) := by decide +kernel
theorem dX10_kindOf_63 : decode cX10_kindOf 63 = .ok (.ireturn, 1) := by decide +kernel
theorem dX10_reads_0 : decode cX10_reads 0 = .ok (.aload_n 0, 1) := by decide +kernel
theorem dX10_reads_1 : decode cX10_reads 1 = .ok (.iconst 0, 1) := by decide +kernel
theorem dX10_reads_2 : decode cX10_reads 2 = .ok (.putfield 124, 3) := by decide +kernel
theorem dX10_reads_5 : decode cX10_reads 5 = .ok (.aload_n 0, 1) := by decide +kernel
theorem dX10_reads_6 : decode cX10_reads 6 = .ok (.iconst (-1), 1) := by decide +kernel
theorem dX10_reads_7 : decode cX10_reads 7 = .ok (.putfield 133, 3) := by decide +kernel
theorem dX10_reads_10 : decode cX10_reads 10 = .ok (.aload_n 0, 1) := by decide +kernel
theorem dX10_reads_11 : decode cX10_reads 11 = .ok (.iconst 0, 1) := by decide +kernel
theorem dX10_reads_12 : decode cX10_reads 12 = .ok (.putfield 146, 3) := by decide +kernel
theorem dX10_reads_15 : decode cX10_reads 15 = .ok (.aload_n 0, 1) := by decide +kernel
theorem dX10_reads_16 : decode cX10_reads 16 = .ok (.aload_n 0, 1) := by decide +kernel
theorem dX10_reads_17 : decode cX10_reads 17 = .ok (.aload_n 0, 1) := by decide +kernel
theorem dX10_reads_18 : decode cX10_reads 18 = .ok (.invokevirtual 143, 3) := by decide +kernel
theorem dX10_reads_21 : decode cX10_reads 21 = .ok (.invokevirtual 149, 3) := by decide +kernel
theorem dX10_reads_24 : decode cX10_reads 24 = .ok (.putfield 152, 3) := by decide +kernel
theorem dX10_reads_27 : decode cX10_reads 27 = .ok (.aload_n 0, 1) := by decide +kernel
theorem dX10_reads_28 : decode cX10_reads 28 = .ok (.aload_n 0, 1) := by decide +kernel
theorem dX10_reads_29 : decode cX10_reads 29 = .ok (.getfield 152, 3) := by decide +kernel
theorem dX10_reads_32 : decode cX10_reads 32 = .ok (.ifCond .lt 7, 3) := by decide +kernel
theorem dX10_reads_35 : decode cX10_reads 35 = .ok (.iconst 1, 1) := by decide +kernel
theorem dX10_reads_36 : decode cX10_reads 36 = .ok (.goto 4, 3) := by decide +kernel
theorem dX10_reads_39 : decode cX10_reads 39 = .ok (.iconst 0, 1) := by decide +kernel
theorem dX10_reads_40 : decode cX10_reads 40 = .ok (.invokevirtual 139, 3) := by decide +kernel
theorem dX10_reads_43 : decode cX10_reads 43 = .ok (.aload_n 0, 1) := by decide +kernel
theorem dX10_reads_44 : decode cX10_reads 44 = .ok (.getfield 133, 3) := by decide +kernel
theorem dX10_reads_47 : decode cX10_reads 47 = .ok (.ifCond .ge 15, 3) := by decide +kernel
theorem dX10_reads_50 : decode cX10_reads 50 = .ok (.aload_n 0, 1) := by decide +kernel
theorem dX10_reads_51 : decode cX10_reads 51 = .ok (.getfield 152, 3) := by decide +kernel
theorem dX10_reads_54 : decode cX10_reads 54 = .ok (.iconst 3, 1) := by decide +kernel
theorem dX10_reads_55 : decode cX10_reads 55 = .ok (.if_icmp .ge 7, 3) := by decide +kernel
theorem dX10_reads_58 : decode cX10_reads 58 = .ok (.aload_n 0, 1) := by decide +kernel
theorem dX10_reads_59 : decode cX10_reads 59 = .ok (.invokevirtual 155, 3) := by decide +kernel
theorem dX10_reads_62 : decode cX10_reads 62 = .ok (.aload_n 0, 1) := by decide +kernel
theorem dX10_reads_63 : decode cX10_reads 63 = .ok (.aload_n 0, 1) := by decide +kernel
theorem dX10_reads_64 : decode cX10_reads 64 = .ok (.getfield 133, 3) := by decide +kernel
theorem dX10_reads_67 : decode cX10_reads 67 = .ok (.ifCond .ge 10, 3) := by decide +kernel
theorem dX10_reads_70 : decode cX10_reads 70 = .ok (.aload_n 0, 1) := by decide +kernel
theorem dX10_reads_71 : decode cX10_reads 71 = .ok (.invokevirtual 158, 3) := by decide +kernel
theorem dX10_reads_74 : decode cX10_reads 74 = .ok (.goto 4, 3) := by decide +kernel
theorem dX10_reads_77 : decode cX10_reads 77 = .ok (.iconst 0, 1) := by decide +kernel
theorem dX10_reads_78 : decode cX10_reads 78 = .ok (.putfield 161, 3) := by decide +kernel
theorem dX10_reads_81 : decode cX10_reads 81 = .ok (.aload_n 0, 1) := by decide +kernel
theorem dX10_reads_82 : decode cX10_reads 82 = .ok (.getfield 133, 3) := by decide +kernel
theorem dX10_reads_85 : decode cX10_reads 85 = .ok (.ifCond .ge 17, 3) := by decide +kernel
theorem dX10_reads_88 : decode cX10_reads 88 = .ok (.aload_n 0, 1) := by decide +kernel
theorem dX10_reads_89 : decode cX10_reads 89 = .ok (.getfield 152, 3) := by decide +kernel
theorem dX10_reads_92 : decode cX10_reads 92 = .ok (.iconst 4, 1) := by decide +kernel
theorem dX10_reads_93 : decode cX10_reads 93 = .ok (.if_icmp .eq 9, 3) := by decide +kernel
theorem dX10_reads_96 : decode cX10_reads 96 = .ok (.aload_n 0, 1) := by decide +kernel
theorem dX10_reads_97 : decode cX10_reads 97 = .ok (.bipush 45, 2) := by decide +kernel
theorem dX10_reads_99 : decode cX10_reads 99 = .ok (.invokevirtual 164, 3) := by decide +kernel
theorem dX10_reads_102 : decode cX10_reads 102 = .ok (.aload_n 0, 1) := by decide +kernel
theorem dX10_reads_103 : decode cX10_reads 103 = .ok (.aload_n 0, 1) := by decide +kernel
theorem dX10_reads_104 : decode cX10_reads 104 = .ok (.getfield 133, 3) := by decide +kernel
theorem dX10_reads_107 : decode cX10_reads 107 = .ok (.ifCond .ge 10, 3) := by decide +kernel
theorem dX10_reads_110 : decode cX10_reads 110 = .ok (.aload_n 0, 1) := by decide +kernel
theorem dX10_reads_111 : decode cX10_reads 111 = .ok (.invokevirtual 158, 3) := by decide +kernel
theorem dX10_reads_114 : decode cX10_reads 114 = .ok (.goto 4, 3) := by decide +kernel
theorem dX10_reads_117 : decode cX10_reads 117 = .ok (.iconst 0, 1) := by decide +kernel
theorem dX10_reads_118 : decode cX10_reads 118 = .ok (.putfield 167, 3) := by decide +kernel
theorem dX10_reads_121 : decode cX10_reads 121 = .ok (.aload_n 0, 1) := by decide +kernel
theorem dX10_reads_122 : decode cX10_reads 122 = .ok (.getfield 133, 3) := by decide +kernel
theorem dX10_reads_125 : decode cX10_reads 125 = .ok (.ifCond .ge 27, 3) := by decide +kernel
theorem dX10_reads_128 : decode cX10_reads 128 = .ok (.aload_n 0, 1) := by decide +kernel
theorem dX10_reads_129 : decode cX10_reads 129 = .ok (.invokevirtual 136, 3) := by decide +kernel
theorem dX10_reads_132 : decode cX10_reads 132 = .ok (.aload_n 0, 1) := by decide +kernel
theorem dX10_reads_133 : decode cX10_reads 133 = .ok (.aload_n 0, 1) := by decide +kernel
theorem dX10_reads_134 : decode cX10_reads 134 = .ok (.getfield 124, 3) := by decide +kernel
theorem dX10_reads_137 : decode cX10_reads 137 = .ok (.aload_n 0, 1) := by decide +kernel
theorem dX10_reads_138 : decode cX10_reads 138 = .ok (.getfield 121, 3) := by decide +kernel
theorem dX10_reads_141 : decode cX10_reads 141 = .ok (.if_icmp .ne 7, 3) := by decide +kernel
theorem dX10_reads_144 : decode cX10_reads 144 = .ok (.iconst 1, 1) := by decide +kernel
theorem dX10_reads_145 : decode cX10_reads 145 = .ok (.goto 4, 3) := by decide +kernel
theorem dX10_reads_148 : decode cX10_reads 148 = .ok (.iconst 0, 1) := by decide +kernel
theorem dX10_reads_149 : decode cX10_reads 149 = .ok (.invokevirtual 139, 3) := by decide +kernel
theorem dX10_reads_152 : decode cX10_reads 152 = .ok (.return_, 1) := by decide +kernel
theorem dX10_define_0 : decode cX10_define 0 = .ok (.aload_n 0, 1) := by decide +kernel
theorem dX10_define_1 : decode cX10_define 1 = .ok (.invokevirtual 170, 3) := by decide +kernel
theorem dX10_define_4 : decode cX10_define 4 = .ok (.aload_n 0, 1) := by decide +kernel
theorem dX10_define_5 : decode cX10_define 5 = .ok (.getfield 133, 3) := by decide +kernel
theorem dX10_define_8 : decode cX10_define 8 = .ok (.ifCond .lt 12, 3) := by decide +kernel
theorem dX10_define_11 : decode cX10_define 11 = .ok (.sipush (-1000), 3) := by decide +kernel
theorem dX10_define_14 : decode cX10_define 14 = .ok (.aload_n 0, 1) := by decide +kernel
theorem dX10_define_15 : decode cX10_define 15 = .ok (.getfield 133, 3) := by decide +kernel
theorem dX10_define_18 : decode cX10_define 18 = .ok (.isub, 1) := by decide +kernel
theorem dX10_define_19 : decode cX10_define 19 = .ok (.ireturn, 1) := by decide +kernel
theorem dX10_define_20 : decode cX10_define 20 = .ok (.aload_n 0, 1) := by decide +kernel
theorem dX10_define_21 : decode cX10_define 21 = .ok (.getfield 152, 3) := by decide +kernel
theorem dX10_define_24 : decode cX10_define 24 = .ok (.iconst 4, 1) := by decide +kernel
theorem dX10_define_25 : decode cX10_define 25 = .ok (.if_icmp .ne 44, 3) := by decide +kernel
theorem dX10_define_28 : decode cX10_define 28 = .ok (.aload_n 0, 1) := by decide +kernel
theorem dX10_define_29 : decode cX10_define 29 = .ok (.aload_n 0, 1) := by decide +kernel
theorem dX10_define_30 : decode cX10_define 30 = .ok (.getfield 161, 3) := by decide +kernel
theorem dX10_define_33 : decode cX10_define 33 = .ok (.invokevirtual 76, 3) := by decide +kernel
theorem dX10_define_36 : decode cX10_define 36 = .ok (.ifCond .eq 29, 3) := by decide +kernel
theorem dX10_define_39 : decode cX10_define 39 = .ok (.aload_n 0, 1) := by decide +kernel
theorem dX10_define_40 : decode cX10_define 40 = .ok (.aload_n 0, 1) := by decide +kernel
theorem dX10_define_41 : decode cX10_define 41 = .ok (.getfield 167, 3) := by decide +kernel
theorem dX10_define_44 : decode cX10_define 44 = .ok (.invokevirtual 76, 3) := by decide +kernel
theorem dX10_define_47 : decode cX10_define 47 = .ok (.ifCond .eq 18, 3) := by decide +kernel
theorem dX10_define_50 : decode cX10_define 50 = .ok (.aload_n 0, 1) := by decide +kernel
theorem dX10_define_51 : decode cX10_define 51 = .ok (.getfield 161, 3) := by decide +kernel
theorem dX10_define_54 : decode cX10_define 54 = .ok (.aload_n 0, 1) := by decide +kernel
theorem dX10_define_55 : decode cX10_define 55 = .ok (.getfield 167, 3) := by decide +kernel
theorem dX10_define_58 : decode cX10_define 58 = .ok (.if_icmp .eq 7, 3) := by decide +kernel
theorem dX10_define_61 : decode cX10_define 61 = .ok (.iconst 1, 1) := by decide +kernel
theorem dX10_define_62 : decode cX10_define 62 = .ok (.goto 32, 3) := by decide +kernel
theorem dX10_define_65 : decode cX10_define 65 = .ok (.iconst 0, 1) := by decide +kernel
theorem dX10_define_66 : decode cX10_define 66 = .ok (.goto 28, 3) := by decide +kernel
theorem dX10_define_69 : decode cX10_define 69 = .ok (.aload_n 0, 1) := by decide +kernel
theorem dX10_define_70 : decode cX10_define 70 = .ok (.getfield 167, 3) := by decide +kernel
theorem dX10_define_73 : decode cX10_define 73 = .ok (.bipush 12, 2) := by decide +kernel
theorem dX10_define_75 : decode cX10_define 75 = .ok (.if_icmp .ge 18, 3) := by decide +kernel
theorem dX10_define_78 : decode cX10_define 78 = .ok (.aload_n 0, 1) := by decide +kernel
theorem dX10_define_79 : decode cX10_define 79 = .ok (.getfield 161, 3) := by decide +kernel
theorem dX10_define_82 : decode cX10_define 82 = .ok (.aload_n 0, 1) := by decide +kernel
theorem dX10_define_83 : decode cX10_define 83 = .ok (.getfield 167, 3) := by decide +kernel
theorem dX10_define_86 : decode cX10_define 86 = .ok (.if_icmp .gt 7, 3) := by decide +kernel
theorem dX10_define_89 : decode cX10_define 89 = .ok (.iconst 1, 1) := by decide +kernel
theorem dX10_define_90 : decode cX10_define 90 = .ok (.goto 4, 3) := by decide +kernel
theorem dX10_define_93 : decode cX10_define 93 = .ok (.iconst 0, 1) := by decide +kernel
theorem dX10_define_94 : decode cX10_define 94 = .ok (.istore_n 1, 1) := by decide +kernel
theorem dX10_define_95 : decode cX10_define 95 = .ok (.iload_n 1, 1) := by decide +kernel
theorem dX10_define_96 : decode cX10_define 96 = .ok (.ifCond .ne 6, 3) := by decide +kernel
theorem dX10_define_99 : decode cX10_define 99 = .ok (.ldc 71, 2) := by decide +kernel
theorem dX10_define_101 : decode cX10_define 101 = .ok (.ireturn, 1) := by decide +kernel
theorem dX10_define_102 : decode cX10_define 102 = .ok (.aload_n 0, 1) := by decide +kernel
theorem dX10_define_103 : decode cX10_define 103 = .ok (.getfield 7, 3) := by decide +kernel
theorem dX10_define_106 : decode cX10_define 106 = .ok (.iconst 1, 1) := by decide +kernel
theorem dX10_define_107 : decode cX10_define 107 = .ok (.iaload, 1) := by decide +kernel
theorem dX10_define_108 : decode cX10_define 108 = .ok (.bipush 8, 2) := by decide +kernel
theorem dX10_define_110 : decode cX10_define 110 = .ok (.if_icmp .ne 6, 3) := by decide +kernel
theorem dX10_define_113 : decode cX10_define 113 = .ok (.ldc 72, 2) := by decide +kernel
theorem dX10_define_115 : decode cX10_define 115 = .ok (.ireturn, 1) := by decide +kernel
theorem dX10_define_116 : decode cX10_define 116 = .ok (.aload_n 0, 1) := by decide +kernel
theorem dX10_define_117 : decode cX10_define 117 = .ok (.invokevirtual 73, 3) := by decide +kernel
theorem dX10_define_120 : decode cX10_define 120 = .ok (.aload_n 0, 1) := by decide +kernel
theorem dX10_define_121 : decode cX10_define 121 = .ok (.iconst 0, 1) := by decide +kernel
theorem dX10_define_122 : decode cX10_define 122 = .ok (.putfield 121, 3) := by decide +kernel
theorem dX10_define_125 : decode cX10_define 125 = .ok (.aload_n 0, 1) := by decide +kernel
theorem dX10_define_126 : decode cX10_define 126 = .ok (.getfield 7, 3) := by decide +kernel
theorem dX10_define_129 : decode cX10_define 129 = .ok (.iconst 1, 1) := by decide +kernel
theorem dX10_define_130 : decode cX10_define 130 = .ok (.iaload, 1) := by decide +kernel
theorem dX10_define_131 : decode cX10_define 131 = .ok (.istore_n 2, 1) := by decide +kernel
theorem dX10_define_132 : decode cX10_define 132 = .ok (.aload_n 0, 1) := by decide +kernel
theorem dX10_define_133 : decode cX10_define 133 = .ok (.getfield 7, 3) := by decide +kernel
theorem dX10_define_136 : decode cX10_define 136 = .ok (.iload_n 2, 1) := by decide +kernel
theorem dX10_define_137 : decode cX10_define 137 = .ok (.iconst 0, 1) := by decide +kernel
theorem dX10_define_138 : decode cX10_define 138 = .ok (.invokestatic 35, 3) := by decide +kernel
theorem dX10_define_141 : decode cX10_define 141 = .ok (.aload_n 0, 1) := by decide +kernel
theorem dX10_define_142 : decode cX10_define 142 = .ok (.getfield 152, 3) := by decide +kernel
theorem dX10_define_145 : decode cX10_define 145 = .ok (.iastore, 1) := by decide +kernel
theorem dX10_define_146 : decode cX10_define 146 = .ok (.aload_n 0, 1) := by decide +kernel
theorem dX10_define_147 : decode cX10_define 147 = .ok (.getfield 7, 3) := by decide +kernel
theorem dX10_define_150 : decode cX10_define 150 = .ok (.iload_n 2, 1) := by decide +kernel
theorem dX10_define_151 : decode cX10_define 151 = .ok (.iconst 1, 1) := by decide +kernel
theorem dX10_define_152 : decode cX10_define 152 = .ok (.invokestatic 35, 3) := by decide +kernel
theorem dX10_define_155 : decode cX10_define 155 = .ok (.aload_n 0, 1) := by decide +kernel
theorem dX10_define_156 : decode cX10_define 156 = .ok (.getfield 146, 3) := by decide +kernel
theorem dX10_define_159 : decode cX10_define 159 = .ok (.iastore, 1) := by decide +kernel
theorem dX10_define_160 : decode cX10_define 160 = .ok (.aload_n 0, 1) := by decide +kernel
theorem dX10_define_161 : decode cX10_define 161 = .ok (.getfield 7, 3) := by decide +kernel
theorem dX10_define_164 : decode cX10_define 164 = .ok (.iload_n 2, 1) := by decide +kernel
theorem dX10_define_165 : decode cX10_define 165 = .ok (.iconst 2, 1) := by decide +kernel
theorem dX10_define_166 : decode cX10_define 166 = .ok (.invokestatic 35, 3) := by decide +kernel
theorem dX10_define_169 : decode cX10_define 169 = .ok (.aload_n 0, 1) := by decide +kernel
theorem dX10_define_170 : decode cX10_define 170 = .ok (.getfield 161, 3) := by decide +kernel
theorem dX10_define_173 : decode cX10_define 173 = .ok (.iastore, 1) := by decide +kernel
theorem dX10_define_174 : decode cX10_define 174 = .ok (.aload_n 0, 1) := by decide +kernel
theorem dX10_define_175 : decode cX10_define 175 = .ok (.getfield 7, 3) := by decide +kernel
theorem dX10_define_178 : decode cX10_define 178 = .ok (.iload_n 2, 1) := by decide +kernel
theorem dX10_define_179 : decode cX10_define 179 = .ok (.iconst 3, 1) := by decide +kernel
theorem dX10_define_180 : decode cX10_define 180 = .ok (.invokestatic 35, 3) := by decide +kernel
theorem dX10_define_183 : decode cX10_define 183 = .ok (.aload_n 0, 1) := by decide +kernel
theorem dX10_define_184 : decode cX10_define 184 = .ok (.getfield 167, 3) := by decide +kernel
theorem dX10_define_187 : decode cX10_define 187 = .ok (.iastore, 1) := by decide +kernel
theorem dX10_define_188 : decode cX10_define 188 = .ok (.aload_n 0, 1) := by decide +kernel
theorem dX10_define_189 : decode cX10_define 189 = .ok (.getfield 7, 3) := by decide +kernel
theorem dX10_define_192 : decode cX10_define 192 = .ok (.iload_n 2, 1) := by decide +kernel
theorem dX10_define_193 : decode cX10_define 193 = .ok (.iconst 4, 1) := by decide +kernel
theorem dX10_define_194 : decode cX10_define 194 = .ok (.invokestatic 35, 3) := by decide +kernel
theorem dX10_define_197 : decode cX10_define 197 = .ok (.iconst 1, 1) := by decide +kernel
theorem dX10_define_198 : decode cX10_define 198 = .ok (.iastore, 1) := by decide +kernel
theorem dX10_define_199 : decode cX10_define 199 = .ok (.aload_n 0, 1) := by decide +kernel
theorem dX10_define_200 : decode cX10_define 200 = .ok (.getfield 7, 3) := by decide +kernel
theorem dX10_define_203 : decode cX10_define 203 = .ok (.iload_n 2, 1) := by decide +kernel
theorem dX10_define_204 : decode cX10_define 204 = .ok (.iconst 5, 1) := by decide +kernel
theorem dX10_define_205 : decode cX10_define 205 = .ok (.invokestatic 35, 3) := by decide +kernel
theorem dX10_define_208 : decode cX10_define 208 = .ok (.iconst 0, 1) := by decide +kernel
theorem dX10_define_209 : decode cX10_define 209 = .ok (.iastore, 1) := by decide +kernel
theorem dX10_define_210 : decode cX10_define 210 = .ok (.aload_n 0, 1) := by decide +kernel
theorem dX10_define_211 : decode cX10_define 211 = .ok (.getfield 7, 3) := by decide +kernel
theorem dX10_define_214 : decode cX10_define 214 = .ok (.iload_n 2, 1) := by decide +kernel
theorem dX10_define_215 : decode cX10_define 215 = .ok (.bipush 6, 2) := by decide +kernel
theorem dX10_define_217 : decode cX10_define 217 = .ok (.invokestatic 35, 3) := by decide +kernel
theorem dX10_define_220 : decode cX10_define 220 = .ok (.aload_n 0, 1) := by decide +kernel
theorem dX10_define_221 : decode cX10_define 221 = .ok (.getfield 7, 3) := by decide +kernel
theorem dX10_define_224 : decode cX10_define 224 = .ok (.iconst 0, 1) := by decide +kernel
theorem dX10_define_225 : decode cX10_define 225 = .ok (.iaload, 1) := by decide +kernel
theorem dX10_define_226 : decode cX10_define 226 = .ok (.iastore, 1) := by decide +kernel
theorem dX10_define_227 : decode cX10_define 227 = .ok (.aload_n 0, 1) := by decide +kernel
theorem dX10_define_228 : decode cX10_define 228 = .ok (.getfield 7, 3) := by decide +kernel
theorem dX10_define_231 : decode cX10_define 231 = .ok (.iload_n 2, 1) := by decide +kernel
theorem dX10_define_232 : decode cX10_define 232 = .ok (.bipush 7, 2) := by decide +kernel
theorem dX10_define_234 : decode cX10_define 234 = .ok (.invokestatic 35, 3) := by decide +kernel
theorem dX10_define_237 : decode cX10_define 237 = .ok (.iconst 0, 1) := by decide +kernel
theorem dX10_define_238 : decode cX10_define 238 = .ok (.iastore, 1) := by decide +kernel
theorem dX10_define_239 : decode cX10_define 239 = .ok (.aload_n 0, 1) := by decide +kernel
theorem dX10_define_240 : decode cX10_define 240 = .ok (.getfield 7, 3) := by decide +kernel
theorem dX10_define_243 : decode cX10_define 243 = .ok (.iload_n 2, 1) := by decide +kernel
theorem dX10_define_244 : decode cX10_define 244 = .ok (.bipush 8, 2) := by decide +kernel
theorem dX10_define_246 : decode cX10_define 246 = .ok (.invokestatic 35, 3) := by decide +kernel
theorem dX10_define_249 : decode cX10_define 249 = .ok (.iconst 0, 1) := by decide +kernel
theorem dX10_define_250 : decode cX10_define 250 = .ok (.iastore, 1) := by decide +kernel
theorem dX10_define_251 : decode cX10_define 251 = .ok (.aload_n 0, 1) := by decide +kernel
theorem dX10_define_252 : decode cX10_define 252 = .ok (.getfield 7, 3) := by decide +kernel
theorem dX10_define_255 : decode cX10_define 255 = .ok (.iconst 1, 1) := by decide +kernel
theorem dX10_define_256 : decode cX10_define 256 = .ok (.dup2, 1) := by decide +kernel
theorem dX10_define_257 : decode cX10_define 257 = .ok (.iaload, 1) := by decide +kernel
theorem dX10_define_258 : decode cX10_define 258 = .ok (.iconst 1, 1) := by decide +kernel
theorem dX10_define_259 : decode cX10_define 259 = .ok (.iadd, 1) := by decide +kernel
theorem dX10_define_260 : decode cX10_define 260 = .ok (.iastore, 1) := by decide +kernel
theorem dX10_define_261 : decode cX10_define 261 = .ok (.iload_n 2, 1) := by decide +kernel
theorem dX10_define_262 : decode cX10_define 262 = .ok (.ireturn, 1) := by decide +kernel
theorem dX10_setOf_0 : decode cX10_setOf 0 = .ok (.iconst 0, 1) := by decide +kernel
theorem dX10_setOf_1 : decode cX10_setOf 1 = .ok (.istore_n 2, 1) := by decide +kernel
theorem dX10_setOf_2 : decode cX10_setOf 2 = .ok (.iconst 0, 1) := by decide +kernel
theorem dX10_setOf_3 : decode cX10_setOf 3 = .ok (.istore_n 3, 1) := by decide +kernel
theorem dX10_setOf_4 : decode cX10_setOf 4 = .ok (.iload_n 3, 1) := by decide +kernel
theorem dX10_setOf_5 : decode cX10_setOf 5 = .ok (.aload_n 0, 1) := by decide +kernel
theorem dX10_setOf_6 : decode cX10_setOf 6 = .ok (.getfield 7, 3) := by decide +kernel
theorem dX10_setOf_9 : decode cX10_setOf 9 = .ok (.iconst 1, 1) := by decide +kernel
theorem dX10_setOf_10 : decode cX10_setOf 10 = .ok (.iaload, 1) := by decide +kernel
theorem dX10_setOf_11 : decode cX10_setOf 11 = .ok (.if_icmp .ge 68, 3) := by decide +kernel
theorem dX10_setOf_14 : decode cX10_setOf 14 = .ok (.iload_n 1, 1) := by decide +kernel
theorem dX10_setOf_15 : decode cX10_setOf 15 = .ok (.iconst 3, 1) := by decide +kernel
theorem dX10_setOf_16 : decode cX10_setOf 16 = .ok (.if_icmp .eq 27, 3) := by decide +kernel
theorem dX10_setOf_19 : decode cX10_setOf 19 = .ok (.iload_n 1, 1) := by decide +kernel
theorem dX10_setOf_20 : decode cX10_setOf 20 = .ok (.iconst 4, 1) := by decide +kernel
theorem dX10_setOf_21 : decode cX10_setOf 21 = .ok (.if_icmp .ne 14, 3) := by decide +kernel
theorem dX10_setOf_24 : decode cX10_setOf 24 = .ok (.aload_n 0, 1) := by decide +kernel
theorem dX10_setOf_25 : decode cX10_setOf 25 = .ok (.iload_n 3, 1) := by decide +kernel
theorem dX10_setOf_26 : decode cX10_setOf 26 = .ok (.invokevirtual 61, 3) := by decide +kernel
theorem dX10_setOf_29 : decode cX10_setOf 29 = .ok (.ifCond .eq 18, 3) := by decide +kernel
theorem dX10_setOf_32 : decode cX10_setOf 32 = .ok (.goto 11, 3) := by decide +kernel
theorem dX10_setOf_35 : decode cX10_setOf 35 = .ok (.aload_n 0, 1) := by decide +kernel
theorem dX10_setOf_36 : decode cX10_setOf 36 = .ok (.iload_n 3, 1) := by decide +kernel
theorem dX10_setOf_37 : decode cX10_setOf 37 = .ok (.invokevirtual 68, 3) := by decide +kernel
theorem dX10_setOf_40 : decode cX10_setOf 40 = .ok (.ifCond .le 7, 3) := by decide +kernel
theorem dX10_setOf_43 : decode cX10_setOf 43 = .ok (.iconst 1, 1) := by decide +kernel
theorem dX10_setOf_44 : decode cX10_setOf 44 = .ok (.goto 4, 3) := by decide +kernel
theorem dX10_setOf_47 : decode cX10_setOf 47 = .ok (.iconst 0, 1) := by decide +kernel
theorem dX10_setOf_48 : decode cX10_setOf 48 = .ok (.istore 4, 2) := by decide +kernel
theorem dX10_setOf_50 : decode cX10_setOf 50 = .ok (.iload_n 2, 1) := by decide +kernel
theorem dX10_setOf_51 : decode cX10_setOf 51 = .ok (.aload_n 0, 1) := by decide +kernel
theorem dX10_setOf_52 : decode cX10_setOf 52 = .ok (.iload_n 3, 1) := by decide +kernel
theorem dX10_setOf_53 : decode cX10_setOf 53 = .ok (.invokevirtual 76, 3) := by decide +kernel
theorem dX10_setOf_56 : decode cX10_setOf 56 = .ok (.ifCond .eq 14, 3) := by decide +kernel
theorem dX10_setOf_59 : decode cX10_setOf 59 = .ok (.iload 4, 2) := by decide +kernel
theorem dX10_setOf_61 : decode cX10_setOf 61 = .ok (.ifCond .eq 9, 3) := by decide +kernel
theorem dX10_setOf_64 : decode cX10_setOf 64 = .ok (.iconst 1, 1) := by decide +kernel
theorem dX10_setOf_65 : decode cX10_setOf 65 = .ok (.iload_n 3, 1) := by decide +kernel
theorem dX10_setOf_66 : decode cX10_setOf 66 = .ok (.ishl, 1) := by decide +kernel
theorem dX10_setOf_67 : decode cX10_setOf 67 = .ok (.goto 4, 3) := by decide +kernel
theorem dX10_setOf_70 : decode cX10_setOf 70 = .ok (.iconst 0, 1) := by decide +kernel
theorem dX10_setOf_71 : decode cX10_setOf 71 = .ok (.ior, 1) := by decide +kernel
theorem dX10_setOf_72 : decode cX10_setOf 72 = .ok (.istore_n 2, 1) := by decide +kernel
theorem dX10_setOf_73 : decode cX10_setOf 73 = .ok (.iinc 3 1, 3) := by decide +kernel
theorem dX10_setOf_76 : decode cX10_setOf 76 = .ok (.goto (-72), 3) := by decide +kernel
theorem dX10_setOf_79 : decode cX10_setOf 79 = .ok (.iload_n 2, 1) := by decide +kernel
theorem dX10_setOf_80 : decode cX10_setOf 80 = .ok (.ireturn, 1) := by decide +kernel
theorem dX10_debts_0 : decode cX10_debts 0 = .ok (.iconst 0, 1) := by decide +kernel
theorem dX10_debts_1 : decode cX10_debts 1 = .ok (.istore_n 1, 1) := by decide +kernel
theorem dX10_debts_2 : decode cX10_debts 2 = .ok (.iconst 0, 1) := by decide +kernel
theorem dX10_debts_3 : decode cX10_debts 3 = .ok (.istore_n 2, 1) := by decide +kernel
theorem dX10_debts_4 : decode cX10_debts 4 = .ok (.iload_n 2, 1) := by decide +kernel
theorem dX10_debts_5 : decode cX10_debts 5 = .ok (.aload_n 0, 1) := by decide +kernel
theorem dX10_debts_6 : decode cX10_debts 6 = .ok (.getfield 7, 3) := by decide +kernel
theorem dX10_debts_9 : decode cX10_debts 9 = .ok (.iconst 1, 1) := by decide +kernel
theorem dX10_debts_10 : decode cX10_debts 10 = .ok (.iaload, 1) := by decide +kernel
theorem dX10_debts_11 : decode cX10_debts 11 = .ok (.if_icmp .ge 23, 3) := by decide +kernel
theorem dX10_debts_14 : decode cX10_debts 14 = .ok (.iload_n 1, 1) := by decide +kernel
theorem dX10_debts_15 : decode cX10_debts 15 = .ok (.aload_n 0, 1) := by decide +kernel
theorem dX10_debts_16 : decode cX10_debts 16 = .ok (.getfield 7, 3) := by decide +kernel
theorem dX10_debts_19 : decode cX10_debts 19 = .ok (.iload_n 2, 1) := by decide +kernel
theorem dX10_debts_20 : decode cX10_debts 20 = .ok (.bipush 7, 2) := by decide +kernel
theorem dX10_debts_22 : decode cX10_debts 22 = .ok (.invokestatic 35, 3) := by decide +kernel
theorem dX10_debts_25 : decode cX10_debts 25 = .ok (.iaload, 1) := by decide +kernel
theorem dX10_debts_26 : decode cX10_debts 26 = .ok (.iadd, 1) := by decide +kernel
theorem dX10_debts_27 : decode cX10_debts 27 = .ok (.istore_n 1, 1) := by decide +kernel
theorem dX10_debts_28 : decode cX10_debts 28 = .ok (.iinc 2 1, 3) := by decide +kernel
theorem dX10_debts_31 : decode cX10_debts 31 = .ok (.goto (-27), 3) := by decide +kernel
theorem dX10_debts_34 : decode cX10_debts 34 = .ok (.iload_n 1, 1) := by decide +kernel
theorem dX10_debts_35 : decode cX10_debts 35 = .ok (.ireturn, 1) := by decide +kernel
theorem dX10_count_0 : decode cX10_count 0 = .ok (.iload_n 1, 1) := by decide +kernel
theorem dX10_count_1 : decode cX10_count 1 = .ok (.tableswitch 163 0 16 #[83, 90, 95, 102, 108, 114, 163, 163, 163, 163, 163, 163, 120, 125, 133, 153, 158], 83) := by decide +kernel
theorem dX10_count_84 : decode cX10_count 84 = .ok (.aload_n 0, 1) := by decide +kernel
theorem dX10_count_85 : decode cX10_count 85 = .ok (.getfield 7, 3) := by decide +kernel
theorem dX10_count_88 : decode cX10_count 88 = .ok (.iconst 0, 1) := by decide +kernel
theorem dX10_count_89 : decode cX10_count 89 = .ok (.iaload, 1) := by decide +kernel
theorem dX10_count_90 : decode cX10_count 90 = .ok (.ireturn, 1) := by decide +kernel
theorem dX10_count_91 : decode cX10_count 91 = .ok (.aload_n 0, 1) := by decide +kernel
theorem dX10_count_92 : decode cX10_count 92 = .ok (.invokevirtual 83, 3) := by decide +kernel
theorem dX10_count_95 : decode cX10_count 95 = .ok (.ireturn, 1) := by decide +kernel
theorem dX10_count_96 : decode cX10_count 96 = .ok (.aload_n 0, 1) := by decide +kernel
theorem dX10_count_97 : decode cX10_count 97 = .ok (.getfield 7, 3) := by decide +kernel
theorem dX10_count_100 : decode cX10_count 100 = .ok (.iconst 1, 1) := by decide +kernel
theorem dX10_count_101 : decode cX10_count 101 = .ok (.iaload, 1) := by decide +kernel
theorem dX10_count_102 : decode cX10_count 102 = .ok (.ireturn, 1) := by decide +kernel
theorem dX10_count_103 : decode cX10_count 103 = .ok (.aload_n 0, 1) := by decide +kernel
theorem dX10_count_104 : decode cX10_count 104 = .ok (.iconst 3, 1) := by decide +kernel
theorem dX10_count_105 : decode cX10_count 105 = .ok (.invokevirtual 173, 3) := by decide +kernel
theorem dX10_count_108 : decode cX10_count 108 = .ok (.ireturn, 1) := by decide +kernel
theorem dX10_count_109 : decode cX10_count 109 = .ok (.aload_n 0, 1) := by decide +kernel
theorem dX10_count_110 : decode cX10_count 110 = .ok (.iconst 4, 1) := by decide +kernel
theorem dX10_count_111 : decode cX10_count 111 = .ok (.invokevirtual 173, 3) := by decide +kernel
theorem dX10_count_114 : decode cX10_count 114 = .ok (.ireturn, 1) := by decide +kernel
theorem dX10_count_115 : decode cX10_count 115 = .ok (.aload_n 0, 1) := by decide +kernel
theorem dX10_count_116 : decode cX10_count 116 = .ok (.iconst 5, 1) := by decide +kernel
theorem dX10_count_117 : decode cX10_count 117 = .ok (.invokevirtual 173, 3) := by decide +kernel
theorem dX10_count_120 : decode cX10_count 120 = .ok (.ireturn, 1) := by decide +kernel
theorem dX10_count_121 : decode cX10_count 121 = .ok (.aload_n 0, 1) := by decide +kernel
theorem dX10_count_122 : decode cX10_count 122 = .ok (.invokevirtual 176, 3) := by decide +kernel
theorem dX10_count_125 : decode cX10_count 125 = .ok (.ireturn, 1) := by decide +kernel
theorem dX10_count_126 : decode cX10_count 126 = .ok (.aload_n 0, 1) := by decide +kernel
theorem dX10_count_127 : decode cX10_count 127 = .ok (.getfield 7, 3) := by decide +kernel
theorem dX10_count_130 : decode cX10_count 130 = .ok (.bipush 8, 2) := by decide +kernel
theorem dX10_count_132 : decode cX10_count 132 = .ok (.iaload, 1) := by decide +kernel
theorem dX10_count_133 : decode cX10_count 133 = .ok (.ireturn, 1) := by decide +kernel
theorem dX10_count_134 : decode cX10_count 134 = .ok (.aload_n 0, 1) := by decide +kernel
theorem dX10_count_135 : decode cX10_count 135 = .ok (.getfield 7, 3) := by decide +kernel
theorem dX10_count_138 : decode cX10_count 138 = .ok (.iconst 0, 1) := by decide +kernel
theorem dX10_count_139 : decode cX10_count 139 = .ok (.invokestatic 118, 3) := by decide +kernel
theorem dX10_count_142 : decode cX10_count 142 = .ok (.iaload, 1) := by decide +kernel
theorem dX10_count_143 : decode cX10_count 143 = .ok (.aload_n 0, 1) := by decide +kernel
theorem dX10_count_144 : decode cX10_count 144 = .ok (.getfield 7, 3) := by decide +kernel
theorem dX10_count_147 : decode cX10_count 147 = .ok (.iconst 1, 1) := by decide +kernel
theorem dX10_count_148 : decode cX10_count 148 = .ok (.invokestatic 118, 3) := by decide +kernel
theorem dX10_count_151 : decode cX10_count 151 = .ok (.iaload, 1) := by decide +kernel
theorem dX10_count_152 : decode cX10_count 152 = .ok (.iadd, 1) := by decide +kernel
theorem dX10_count_153 : decode cX10_count 153 = .ok (.ireturn, 1) := by decide +kernel
theorem dX10_count_154 : decode cX10_count 154 = .ok (.aload_n 0, 1) := by decide +kernel
theorem dX10_count_155 : decode cX10_count 155 = .ok (.getfield 39, 3) := by decide +kernel
theorem dX10_count_158 : decode cX10_count 158 = .ok (.ireturn, 1) := by decide +kernel
theorem dX10_count_159 : decode cX10_count 159 = .ok (.aload_n 0, 1) := by decide +kernel
theorem dX10_count_160 : decode cX10_count 160 = .ok (.getfield 121, 3) := by decide +kernel
theorem dX10_count_163 : decode cX10_count 163 = .ok (.ireturn, 1) := by decide +kernel
theorem dX10_count_164 : decode cX10_count 164 = .ok (.iload_n 1, 1) := by decide +kernel
theorem dX10_count_165 : decode cX10_count 165 = .ok (.bipush 6, 2) := by decide +kernel
theorem dX10_count_167 : decode cX10_count 167 = .ok (.bipush 11, 2) := by decide +kernel
theorem dX10_count_169 : decode cX10_count 169 = .ok (.invokestatic 31, 3) := by decide +kernel
theorem dX10_count_172 : decode cX10_count 172 = .ok (.ifCond .eq 17, 3) := by decide +kernel
theorem dX10_count_175 : decode cX10_count 175 = .ok (.aload_n 0, 1) := by decide +kernel
theorem dX10_count_176 : decode cX10_count 176 = .ok (.getfield 7, 3) := by decide +kernel
theorem dX10_count_179 : decode cX10_count 179 = .ok (.iconst 2, 1) := by decide +kernel
theorem dX10_count_180 : decode cX10_count 180 = .ok (.iload_n 1, 1) := by decide +kernel
theorem dX10_count_181 : decode cX10_count 181 = .ok (.iadd, 1) := by decide +kernel
theorem dX10_count_182 : decode cX10_count 182 = .ok (.bipush 6, 2) := by decide +kernel
theorem dX10_count_184 : decode cX10_count 184 = .ok (.isub, 1) := by decide +kernel
theorem dX10_count_185 : decode cX10_count 185 = .ok (.iaload, 1) := by decide +kernel
theorem dX10_count_186 : decode cX10_count 186 = .ok (.goto 31, 3) := by decide +kernel
theorem dX10_count_189 : decode cX10_count 189 = .ok (.iload_n 1, 1) := by decide +kernel
theorem dX10_count_190 : decode cX10_count 190 = .ok (.bipush 17, 2) := by decide +kernel
theorem dX10_count_192 : decode cX10_count 192 = .ok (.bipush 22, 2) := by decide +kernel
theorem dX10_count_194 : decode cX10_count 194 = .ok (.invokestatic 31, 3) := by decide +kernel
theorem dX10_count_197 : decode cX10_count 197 = .ok (.ifCond .eq 18, 3) := by decide +kernel
end
section
theorem dX10_count_200 : decode cX10_count 200 = .ok (.aload_n 0, 1) := by decide +kernel
theorem dX10_count_201 : decode cX10_count 201 = .ok (.getfield 7, 3) := by decide +kernel
theorem dX10_count_204 : decode cX10_count 204 = .ok (.bipush 9, 2) := by decide +kernel
theorem dX10_count_206 : decode cX10_count 206 = .ok (.iload_n 1, 1) := by decide +kernel
theorem dX10_count_207 : decode cX10_count 207 = .ok (.iadd, 1) := by decide +kernel
theorem dX10_count_208 : decode cX10_count 208 = .ok (.bipush 17, 2) := by decide +kernel
theorem dX10_count_210 : decode cX10_count 210 = .ok (.isub, 1) := by decide +kernel
theorem dX10_count_211 : decode cX10_count 211 = .ok (.iaload, 1) := by decide +kernel
theorem dX10_count_212 : decode cX10_count 212 = .ok (.goto 5, 3) := by decide +kernel
theorem dX10_count_215 : decode cX10_count 215 = .ok (.ldc 71, 2) := by decide +kernel
theorem dX10_count_217 : decode cX10_count 217 = .ok (.ireturn, 1) := by decide +kernel
theorem dX10_isPlace_0 : decode cX10_isPlace 0 = .ok (.iload_n 1, 1) := by decide +kernel
theorem dX10_isPlace_1 : decode cX10_isPlace 1 = .ok (.iconst 0, 1) := by decide +kernel
theorem dX10_isPlace_2 : decode cX10_isPlace 2 = .ok (.aload_n 0, 1) := by decide +kernel
theorem dX10_isPlace_3 : decode cX10_isPlace 3 = .ok (.getfield 7, 3) := by decide +kernel
theorem dX10_isPlace_6 : decode cX10_isPlace 6 = .ok (.iconst 0, 1) := by decide +kernel
theorem dX10_isPlace_7 : decode cX10_isPlace 7 = .ok (.iaload, 1) := by decide +kernel
theorem dX10_isPlace_8 : decode cX10_isPlace 8 = .ok (.invokestatic 31, 3) := by decide +kernel
theorem dX10_isPlace_11 : decode cX10_isPlace 11 = .ok (.ireturn, 1) := by decide +kernel
theorem dX10_value_0 : decode cX10_value 0 = .ok (.iload_n 1, 1) := by decide +kernel
theorem dX10_value_1 : decode cX10_value 1 = .ok (.iconst 0, 1) := by decide +kernel
theorem dX10_value_2 : decode cX10_value 2 = .ok (.iconst 1, 1) := by decide +kernel
theorem dX10_value_3 : decode cX10_value 3 = .ok (.invokestatic 31, 3) := by decide +kernel
theorem dX10_value_6 : decode cX10_value 6 = .ok (.ifCond .eq 21, 3) := by decide +kernel
theorem dX10_value_9 : decode cX10_value 9 = .ok (.iload_n 2, 1) := by decide +kernel
theorem dX10_value_10 : decode cX10_value 10 = .ok (.iconst 0, 1) := by decide +kernel
theorem dX10_value_11 : decode cX10_value 11 = .ok (.bipush 11, 2) := by decide +kernel
theorem dX10_value_13 : decode cX10_value 13 = .ok (.invokestatic 31, 3) := by decide +kernel
theorem dX10_value_16 : decode cX10_value 16 = .ok (.ifCond .eq 11, 3) := by decide +kernel
theorem dX10_value_19 : decode cX10_value 19 = .ok (.aload_n 0, 1) := by decide +kernel
theorem dX10_value_20 : decode cX10_value 20 = .ok (.iload_n 3, 1) := by decide +kernel
theorem dX10_value_21 : decode cX10_value 21 = .ok (.invokevirtual 179, 3) := by decide +kernel
theorem dX10_value_24 : decode cX10_value 24 = .ok (.ifCond .ne 6, 3) := by decide +kernel
theorem dX10_value_27 : decode cX10_value 27 = .ok (.ldc 71, 2) := by decide +kernel
theorem dX10_value_29 : decode cX10_value 29 = .ok (.ireturn, 1) := by decide +kernel
theorem dX10_value_30 : decode cX10_value 30 = .ok (.aload_n 0, 1) := by decide +kernel
theorem dX10_value_31 : decode cX10_value 31 = .ok (.iload_n 3, 1) := by decide +kernel
theorem dX10_value_32 : decode cX10_value 32 = .ok (.invokevirtual 46, 3) := by decide +kernel
theorem dX10_value_35 : decode cX10_value 35 = .ok (.aload_n 0, 1) := by decide +kernel
theorem dX10_value_36 : decode cX10_value 36 = .ok (.getfield 19, 3) := by decide +kernel
theorem dX10_value_39 : decode cX10_value 39 = .ok (.bipush 12, 2) := by decide +kernel
theorem dX10_value_41 : decode cX10_value 41 = .ok (.iload_n 1, 1) := by decide +kernel
theorem dX10_value_42 : decode cX10_value 42 = .ok (.imul, 1) := by decide +kernel
theorem dX10_value_43 : decode cX10_value 43 = .ok (.iload_n 2, 1) := by decide +kernel
theorem dX10_value_44 : decode cX10_value 44 = .ok (.iadd, 1) := by decide +kernel
theorem dX10_value_45 : decode cX10_value 45 = .ok (.iaload, 1) := by decide +kernel
theorem dX10_value_46 : decode cX10_value 46 = .ok (.istore 4, 2) := by decide +kernel
theorem dX10_value_48 : decode cX10_value 48 = .ok (.iload 4, 2) := by decide +kernel
theorem dX10_value_50 : decode cX10_value 50 = .ok (.ifCond .ge 8, 3) := by decide +kernel
theorem dX10_value_53 : decode cX10_value 53 = .ok (.ldc 182, 2) := by decide +kernel
theorem dX10_value_55 : decode cX10_value 55 = .ok (.goto 5, 3) := by decide +kernel
theorem dX10_value_58 : decode cX10_value 58 = .ok (.iload 4, 2) := by decide +kernel
theorem dX10_value_60 : decode cX10_value 60 = .ok (.ireturn, 1) := by decide +kernel
theorem dX10_change_0 : decode cX10_change 0 = .ok (.iload_n 1, 1) := by decide +kernel
theorem dX10_change_1 : decode cX10_change 1 = .ok (.iconst 0, 1) := by decide +kernel
theorem dX10_change_2 : decode cX10_change 2 = .ok (.aload_n 0, 1) := by decide +kernel
theorem dX10_change_3 : decode cX10_change 3 = .ok (.getfield 7, 3) := by decide +kernel
theorem dX10_change_6 : decode cX10_change 6 = .ok (.iconst 0, 1) := by decide +kernel
theorem dX10_change_7 : decode cX10_change 7 = .ok (.iaload, 1) := by decide +kernel
theorem dX10_change_8 : decode cX10_change 8 = .ok (.iconst 1, 1) := by decide +kernel
theorem dX10_change_9 : decode cX10_change 9 = .ok (.isub, 1) := by decide +kernel
theorem dX10_change_10 : decode cX10_change 10 = .ok (.invokestatic 31, 3) := by decide +kernel
theorem dX10_change_13 : decode cX10_change 13 = .ok (.ifCond .eq 12, 3) := by decide +kernel
theorem dX10_change_16 : decode cX10_change 16 = .ok (.iload_n 2, 1) := by decide +kernel
theorem dX10_change_17 : decode cX10_change 17 = .ok (.iconst 0, 1) := by decide +kernel
theorem dX10_change_18 : decode cX10_change 18 = .ok (.iconst 3, 1) := by decide +kernel
theorem dX10_change_19 : decode cX10_change 19 = .ok (.invokestatic 31, 3) := by decide +kernel
theorem dX10_change_22 : decode cX10_change 22 = .ok (.ifCond .ne 6, 3) := by decide +kernel
theorem dX10_change_25 : decode cX10_change 25 = .ok (.ldc 71, 2) := by decide +kernel
theorem dX10_change_27 : decode cX10_change 27 = .ok (.ireturn, 1) := by decide +kernel
theorem dX10_change_28 : decode cX10_change 28 = .ok (.iload_n 2, 1) := by decide +kernel
theorem dX10_change_29 : decode cX10_change 29 = .ok (.iconst 3, 1) := by decide +kernel
theorem dX10_change_30 : decode cX10_change 30 = .ok (.if_icmp .ne 11, 3) := by decide +kernel
theorem dX10_change_33 : decode cX10_change 33 = .ok (.aload_n 0, 1) := by decide +kernel
theorem dX10_change_34 : decode cX10_change 34 = .ok (.iload_n 1, 1) := by decide +kernel
theorem dX10_change_35 : decode cX10_change 35 = .ok (.invokevirtual 58, 3) := by decide +kernel
theorem dX10_change_38 : decode cX10_change 38 = .ok (.goto 13, 3) := by decide +kernel
theorem dX10_change_41 : decode cX10_change 41 = .ok (.aload_n 0, 1) := by decide +kernel
theorem dX10_change_42 : decode cX10_change 42 = .ok (.getfield 7, 3) := by decide +kernel
theorem dX10_change_45 : decode cX10_change 45 = .ok (.iload_n 1, 1) := by decide +kernel
theorem dX10_change_46 : decode cX10_change 46 = .ok (.iload_n 2, 1) := by decide +kernel
theorem dX10_change_47 : decode cX10_change 47 = .ok (.invokestatic 43, 3) := by decide +kernel
theorem dX10_change_50 : decode cX10_change 50 = .ok (.iaload, 1) := by decide +kernel
theorem dX10_change_51 : decode cX10_change 51 = .ok (.ireturn, 1) := by decide +kernel
theorem dX10_view_0 : decode cX10_view 0 = .ok (.aload_n 0, 1) := by decide +kernel
theorem dX10_view_1 : decode cX10_view 1 = .ok (.iload_n 1, 1) := by decide +kernel
theorem dX10_view_2 : decode cX10_view 2 = .ok (.invokevirtual 76, 3) := by decide +kernel
theorem dX10_view_5 : decode cX10_view 5 = .ok (.ifCond .ne 6, 3) := by decide +kernel
theorem dX10_view_8 : decode cX10_view 8 = .ok (.ldc 71, 2) := by decide +kernel
theorem dX10_view_10 : decode cX10_view 10 = .ok (.ireturn, 1) := by decide +kernel
theorem dX10_view_11 : decode cX10_view 11 = .ok (.iload_n 2, 1) := by decide +kernel
theorem dX10_view_12 : decode cX10_view 12 = .ok (.tableswitch 191 0 9 #[56, 67, 97, 108, 119, 130, 155, 161, 173, 179], 56) := by decide +kernel
theorem dX10_view_68 : decode cX10_view 68 = .ok (.aload_n 0, 1) := by decide +kernel
theorem dX10_view_69 : decode cX10_view 69 = .ok (.getfield 7, 3) := by decide +kernel
theorem dX10_view_72 : decode cX10_view 72 = .ok (.iload_n 1, 1) := by decide +kernel
theorem dX10_view_73 : decode cX10_view 73 = .ok (.iconst 0, 1) := by decide +kernel
theorem dX10_view_74 : decode cX10_view 74 = .ok (.invokestatic 35, 3) := by decide +kernel
theorem dX10_view_77 : decode cX10_view 77 = .ok (.iaload, 1) := by decide +kernel
theorem dX10_view_78 : decode cX10_view 78 = .ok (.ireturn, 1) := by decide +kernel
theorem dX10_view_79 : decode cX10_view 79 = .ok (.aload_n 0, 1) := by decide +kernel
theorem dX10_view_80 : decode cX10_view 80 = .ok (.getfield 7, 3) := by decide +kernel
theorem dX10_view_83 : decode cX10_view 83 = .ok (.iload_n 1, 1) := by decide +kernel
theorem dX10_view_84 : decode cX10_view 84 = .ok (.iconst 0, 1) := by decide +kernel
theorem dX10_view_85 : decode cX10_view 85 = .ok (.invokestatic 35, 3) := by decide +kernel
theorem dX10_view_88 : decode cX10_view 88 = .ok (.iaload, 1) := by decide +kernel
theorem dX10_view_89 : decode cX10_view 89 = .ok (.iconst 3, 1) := by decide +kernel
theorem dX10_view_90 : decode cX10_view 90 = .ok (.if_icmp .lt 8, 3) := by decide +kernel
theorem dX10_view_93 : decode cX10_view 93 = .ok (.ldc 182, 2) := by decide +kernel
theorem dX10_view_95 : decode cX10_view 95 = .ok (.goto 13, 3) := by decide +kernel
theorem dX10_view_98 : decode cX10_view 98 = .ok (.aload_n 0, 1) := by decide +kernel
theorem dX10_view_99 : decode cX10_view 99 = .ok (.getfield 7, 3) := by decide +kernel
theorem dX10_view_102 : decode cX10_view 102 = .ok (.iload_n 1, 1) := by decide +kernel
theorem dX10_view_103 : decode cX10_view 103 = .ok (.iconst 1, 1) := by decide +kernel
theorem dX10_view_104 : decode cX10_view 104 = .ok (.invokestatic 35, 3) := by decide +kernel
theorem dX10_view_107 : decode cX10_view 107 = .ok (.iaload, 1) := by decide +kernel
theorem dX10_view_108 : decode cX10_view 108 = .ok (.ireturn, 1) := by decide +kernel
theorem dX10_view_109 : decode cX10_view 109 = .ok (.aload_n 0, 1) := by decide +kernel
theorem dX10_view_110 : decode cX10_view 110 = .ok (.getfield 7, 3) := by decide +kernel
theorem dX10_view_113 : decode cX10_view 113 = .ok (.iload_n 1, 1) := by decide +kernel
theorem dX10_view_114 : decode cX10_view 114 = .ok (.iconst 2, 1) := by decide +kernel
theorem dX10_view_115 : decode cX10_view 115 = .ok (.invokestatic 35, 3) := by decide +kernel
theorem dX10_view_118 : decode cX10_view 118 = .ok (.iaload, 1) := by decide +kernel
theorem dX10_view_119 : decode cX10_view 119 = .ok (.ireturn, 1) := by decide +kernel
theorem dX10_view_120 : decode cX10_view 120 = .ok (.aload_n 0, 1) := by decide +kernel
theorem dX10_view_121 : decode cX10_view 121 = .ok (.getfield 7, 3) := by decide +kernel
theorem dX10_view_124 : decode cX10_view 124 = .ok (.iload_n 1, 1) := by decide +kernel
theorem dX10_view_125 : decode cX10_view 125 = .ok (.iconst 3, 1) := by decide +kernel
theorem dX10_view_126 : decode cX10_view 126 = .ok (.invokestatic 35, 3) := by decide +kernel
theorem dX10_view_129 : decode cX10_view 129 = .ok (.iaload, 1) := by decide +kernel
theorem dX10_view_130 : decode cX10_view 130 = .ok (.ireturn, 1) := by decide +kernel
theorem dX10_view_131 : decode cX10_view 131 = .ok (.aload_n 0, 1) := by decide +kernel
theorem dX10_view_132 : decode cX10_view 132 = .ok (.getfield 7, 3) := by decide +kernel
theorem dX10_view_135 : decode cX10_view 135 = .ok (.iload_n 1, 1) := by decide +kernel
theorem dX10_view_136 : decode cX10_view 136 = .ok (.iconst 5, 1) := by decide +kernel
theorem dX10_view_137 : decode cX10_view 137 = .ok (.invokestatic 35, 3) := by decide +kernel
theorem dX10_view_140 : decode cX10_view 140 = .ok (.iaload, 1) := by decide +kernel
theorem dX10_view_141 : decode cX10_view 141 = .ok (.ireturn, 1) := by decide +kernel
theorem dX10_view_142 : decode cX10_view 142 = .ok (.aload_n 0, 1) := by decide +kernel
theorem dX10_view_143 : decode cX10_view 143 = .ok (.iload_n 1, 1) := by decide +kernel
theorem dX10_view_144 : decode cX10_view 144 = .ok (.invokevirtual 61, 3) := by decide +kernel
theorem dX10_view_147 : decode cX10_view 147 = .ok (.ifCond .eq 8, 3) := by decide +kernel
theorem dX10_view_150 : decode cX10_view 150 = .ok (.ldc 182, 2) := by decide +kernel
theorem dX10_view_152 : decode cX10_view 152 = .ok (.goto 14, 3) := by decide +kernel
theorem dX10_view_155 : decode cX10_view 155 = .ok (.aload_n 0, 1) := by decide +kernel
theorem dX10_view_156 : decode cX10_view 156 = .ok (.getfield 7, 3) := by decide +kernel
theorem dX10_view_159 : decode cX10_view 159 = .ok (.iload_n 1, 1) := by decide +kernel
theorem dX10_view_160 : decode cX10_view 160 = .ok (.bipush 6, 2) := by decide +kernel
theorem dX10_view_162 : decode cX10_view 162 = .ok (.invokestatic 35, 3) := by decide +kernel
theorem dX10_view_165 : decode cX10_view 165 = .ok (.iaload, 1) := by decide +kernel
theorem dX10_view_166 : decode cX10_view 166 = .ok (.ireturn, 1) := by decide +kernel
theorem dX10_view_167 : decode cX10_view 167 = .ok (.aload_n 0, 1) := by decide +kernel
theorem dX10_view_168 : decode cX10_view 168 = .ok (.iload_n 1, 1) := by decide +kernel
theorem dX10_view_169 : decode cX10_view 169 = .ok (.invokevirtual 68, 3) := by decide +kernel
theorem dX10_view_172 : decode cX10_view 172 = .ok (.ireturn, 1) := by decide +kernel
theorem dX10_view_173 : decode cX10_view 173 = .ok (.aload_n 0, 1) := by decide +kernel
theorem dX10_view_174 : decode cX10_view 174 = .ok (.getfield 7, 3) := by decide +kernel
theorem dX10_view_177 : decode cX10_view 177 = .ok (.iload_n 1, 1) := by decide +kernel
theorem dX10_view_178 : decode cX10_view 178 = .ok (.bipush 7, 2) := by decide +kernel
theorem dX10_view_180 : decode cX10_view 180 = .ok (.invokestatic 35, 3) := by decide +kernel
theorem dX10_view_183 : decode cX10_view 183 = .ok (.iaload, 1) := by decide +kernel
theorem dX10_view_184 : decode cX10_view 184 = .ok (.ireturn, 1) := by decide +kernel
theorem dX10_view_185 : decode cX10_view 185 = .ok (.aload_n 0, 1) := by decide +kernel
theorem dX10_view_186 : decode cX10_view 186 = .ok (.iload_n 1, 1) := by decide +kernel
theorem dX10_view_187 : decode cX10_view 187 = .ok (.invokevirtual 106, 3) := by decide +kernel
theorem dX10_view_190 : decode cX10_view 190 = .ok (.ireturn, 1) := by decide +kernel
theorem dX10_view_191 : decode cX10_view 191 = .ok (.aload_n 0, 1) := by decide +kernel
theorem dX10_view_192 : decode cX10_view 192 = .ok (.getfield 7, 3) := by decide +kernel
theorem dX10_view_195 : decode cX10_view 195 = .ok (.iload_n 1, 1) := by decide +kernel
theorem dX10_view_196 : decode cX10_view 196 = .ok (.bipush 8, 2) := by decide +kernel
theorem dX10_view_198 : decode cX10_view 198 = .ok (.invokestatic 35, 3) := by decide +kernel
theorem dX10_view_201 : decode cX10_view 201 = .ok (.iaload, 1) := by decide +kernel
theorem dX10_view_202 : decode cX10_view 202 = .ok (.ireturn, 1) := by decide +kernel
theorem dX10_view_203 : decode cX10_view 203 = .ok (.ldc 71, 2) := by decide +kernel
theorem dX10_view_205 : decode cX10_view 205 = .ok (.ireturn, 1) := by decide +kernel
theorem dX10_kept_0 : decode cX10_kept 0 = .ok (.aload_n 0, 1) := by decide +kernel
theorem dX10_kept_1 : decode cX10_kept 1 = .ok (.iload_n 1, 1) := by decide +kernel
theorem dX10_kept_2 : decode cX10_kept 2 = .ok (.invokevirtual 76, 3) := by decide +kernel
theorem dX10_kept_5 : decode cX10_kept 5 = .ok (.ifCond .ne 6, 3) := by decide +kernel
theorem dX10_kept_8 : decode cX10_kept 8 = .ok (.ldc 71, 2) := by decide +kernel
theorem dX10_kept_10 : decode cX10_kept 10 = .ok (.ireturn, 1) := by decide +kernel
theorem dX10_kept_11 : decode cX10_kept 11 = .ok (.aload_n 0, 1) := by decide +kernel
theorem dX10_kept_12 : decode cX10_kept 12 = .ok (.iload_n 1, 1) := by decide +kernel
theorem dX10_kept_13 : decode cX10_kept 13 = .ok (.invokevirtual 61, 3) := by decide +kernel
theorem dX10_kept_16 : decode cX10_kept 16 = .ok (.ifCond .eq 8, 3) := by decide +kernel
theorem dX10_kept_19 : decode cX10_kept 19 = .ok (.ldc 82, 2) := by decide +kernel
theorem dX10_kept_21 : decode cX10_kept 21 = .ok (.goto 19, 3) := by decide +kernel
theorem dX10_kept_24 : decode cX10_kept 24 = .ok (.aload_n 0, 1) := by decide +kernel
theorem dX10_kept_25 : decode cX10_kept 25 = .ok (.iload_n 1, 1) := by decide +kernel
theorem dX10_kept_26 : decode cX10_kept 26 = .ok (.aload_n 0, 1) := by decide +kernel
theorem dX10_kept_27 : decode cX10_kept 27 = .ok (.getfield 7, 3) := by decide +kernel
theorem dX10_kept_30 : decode cX10_kept 30 = .ok (.iload_n 1, 1) := by decide +kernel
theorem dX10_kept_31 : decode cX10_kept 31 = .ok (.bipush 6, 2) := by decide +kernel
theorem dX10_kept_33 : decode cX10_kept 33 = .ok (.invokestatic 35, 3) := by decide +kernel
theorem dX10_kept_36 : decode cX10_kept 36 = .ok (.iaload, 1) := by decide +kernel
theorem dX10_kept_37 : decode cX10_kept 37 = .ok (.invokevirtual 183, 3) := by decide +kernel
theorem dX10_kept_40 : decode cX10_kept 40 = .ok (.ireturn, 1) := by decide +kernel
theorem dX10_ask_0 : decode cX10_ask 0 = .ok (.aload_n 0, 1) := by decide +kernel
theorem dX10_ask_1 : decode cX10_ask 1 = .ok (.iload_n 1, 1) := by decide +kernel
theorem dX10_ask_2 : decode cX10_ask 2 = .ok (.invokevirtual 76, 3) := by decide +kernel
theorem dX10_ask_5 : decode cX10_ask 5 = .ok (.ifCond .eq 29, 3) := by decide +kernel
theorem dX10_ask_8 : decode cX10_ask 8 = .ok (.aload_n 0, 1) := by decide +kernel
theorem dX10_ask_9 : decode cX10_ask 9 = .ok (.iload_n 2, 1) := by decide +kernel
theorem dX10_ask_10 : decode cX10_ask 10 = .ok (.invokevirtual 179, 3) := by decide +kernel
theorem dX10_ask_13 : decode cX10_ask 13 = .ok (.ifCond .eq 21, 3) := by decide +kernel
theorem dX10_ask_16 : decode cX10_ask 16 = .ok (.iload_n 3, 1) := by decide +kernel
theorem dX10_ask_17 : decode cX10_ask 17 = .ok (.iconst 0, 1) := by decide +kernel
theorem dX10_ask_18 : decode cX10_ask 18 = .ok (.iconst 1, 1) := by decide +kernel
theorem dX10_ask_19 : decode cX10_ask 19 = .ok (.invokestatic 31, 3) := by decide +kernel
theorem dX10_ask_22 : decode cX10_ask 22 = .ok (.ifCond .eq 12, 3) := by decide +kernel
theorem dX10_ask_25 : decode cX10_ask 25 = .ok (.aload_n 0, 1) := by decide +kernel
theorem dX10_ask_26 : decode cX10_ask 26 = .ok (.iload_n 1, 1) := by decide +kernel
theorem dX10_ask_27 : decode cX10_ask 27 = .ok (.iload_n 2, 1) := by decide +kernel
theorem dX10_ask_28 : decode cX10_ask 28 = .ok (.invokevirtual 183, 3) := by decide +kernel
theorem dX10_ask_31 : decode cX10_ask 31 = .ok (.goto 5, 3) := by decide +kernel
theorem dX10_ask_34 : decode cX10_ask 34 = .ok (.ldc 71, 2) := by decide +kernel
theorem dX10_ask_36 : decode cX10_ask 36 = .ok (.ireturn, 1) := by decide +kernel
theorem dX10_ruin_0 : decode cX10_ruin 0 = .ok (.aload_n 0, 1) := by decide +kernel
theorem dX10_ruin_1 : decode cX10_ruin 1 = .ok (.iload_n 1, 1) := by decide +kernel
theorem dX10_ruin_2 : decode cX10_ruin 2 = .ok (.invokevirtual 76, 3) := by decide +kernel
theorem dX10_ruin_5 : decode cX10_ruin 5 = .ok (.ifCond .ne 6, 3) := by decide +kernel
theorem dX10_ruin_8 : decode cX10_ruin 8 = .ok (.ldc 71, 2) := by decide +kernel
theorem dX10_ruin_10 : decode cX10_ruin 10 = .ok (.ireturn, 1) := by decide +kernel
theorem dX10_ruin_11 : decode cX10_ruin 11 = .ok (.aload_n 0, 1) := by decide +kernel
theorem dX10_ruin_12 : decode cX10_ruin 12 = .ok (.iload_n 1, 1) := by decide +kernel
theorem dX10_ruin_13 : decode cX10_ruin 13 = .ok (.invokevirtual 61, 3) := by decide +kernel
theorem dX10_ruin_16 : decode cX10_ruin 16 = .ok (.ifCond .eq 6, 3) := by decide +kernel
theorem dX10_ruin_19 : decode cX10_ruin 19 = .ok (.ldc 82, 2) := by decide +kernel
theorem dX10_ruin_21 : decode cX10_ruin 21 = .ok (.ireturn, 1) := by decide +kernel
theorem dX10_ruin_22 : decode cX10_ruin 22 = .ok (.aload_n 0, 1) := by decide +kernel
theorem dX10_ruin_23 : decode cX10_ruin 23 = .ok (.getfield 7, 3) := by decide +kernel
theorem dX10_ruin_26 : decode cX10_ruin 26 = .ok (.iload_n 1, 1) := by decide +kernel
theorem dX10_ruin_27 : decode cX10_ruin 27 = .ok (.bipush 7, 2) := by decide +kernel
theorem dX10_ruin_29 : decode cX10_ruin 29 = .ok (.invokestatic 35, 3) := by decide +kernel
theorem dX10_ruin_32 : decode cX10_ruin 32 = .ok (.iaload, 1) := by decide +kernel
theorem dX10_ruin_33 : decode cX10_ruin 33 = .ok (.istore_n 2, 1) := by decide +kernel
theorem dX10_ruin_34 : decode cX10_ruin 34 = .ok (.aload_n 0, 1) := by decide +kernel
theorem dX10_ruin_35 : decode cX10_ruin 35 = .ok (.getfield 7, 3) := by decide +kernel
theorem dX10_ruin_38 : decode cX10_ruin 38 = .ok (.bipush 9, 2) := by decide +kernel
theorem dX10_ruin_40 : decode cX10_ruin 40 = .ok (.iaload, 1) := by decide +kernel
theorem dX10_ruin_41 : decode cX10_ruin 41 = .ok (.aload_n 0, 1) := by decide +kernel
theorem dX10_ruin_42 : decode cX10_ruin 42 = .ok (.iload_n 1, 1) := by decide +kernel
theorem dX10_ruin_43 : decode cX10_ruin 43 = .ok (.invokevirtual 68, 3) := by decide +kernel
theorem dX10_ruin_46 : decode cX10_ruin 46 = .ok (.imul, 1) := by decide +kernel
theorem dX10_ruin_47 : decode cX10_ruin 47 = .ok (.istore_n 3, 1) := by decide +kernel
theorem dX10_ruin_48 : decode cX10_ruin 48 = .ok (.iconst 1, 1) := by decide +kernel
theorem dX10_ruin_49 : decode cX10_ruin 49 = .ok (.istore 4, 2) := by decide +kernel
theorem dX10_ruin_51 : decode cX10_ruin 51 = .ok (.iload 4, 2) := by decide +kernel
theorem dX10_ruin_53 : decode cX10_ruin 53 = .ok (.sipush 1001, 3) := by decide +kernel
theorem dX10_ruin_56 : decode cX10_ruin 56 = .ok (.if_icmp .ge 27, 3) := by decide +kernel
theorem dX10_ruin_59 : decode cX10_ruin 59 = .ok (.iload_n 2, 1) := by decide +kernel
theorem dX10_ruin_60 : decode cX10_ruin 60 = .ok (.iload_n 3, 1) := by decide +kernel
theorem dX10_ruin_61 : decode cX10_ruin 61 = .ok (.iadd, 1) := by decide +kernel
theorem dX10_ruin_62 : decode cX10_ruin 62 = .ok (.istore_n 2, 1) := by decide +kernel
theorem dX10_ruin_63 : decode cX10_ruin 63 = .ok (.iload_n 2, 1) := by decide +kernel
theorem dX10_ruin_64 : decode cX10_ruin 64 = .ok (.aload_n 0, 1) := by decide +kernel
theorem dX10_ruin_65 : decode cX10_ruin 65 = .ok (.getfield 7, 3) := by decide +kernel
theorem dX10_ruin_68 : decode cX10_ruin 68 = .ok (.bipush 11, 2) := by decide +kernel
theorem dX10_ruin_70 : decode cX10_ruin 70 = .ok (.iaload, 1) := by decide +kernel
theorem dX10_ruin_71 : decode cX10_ruin 71 = .ok (.if_icmp .le 6, 3) := by decide +kernel
theorem dX10_ruin_74 : decode cX10_ruin 74 = .ok (.iload 4, 2) := by decide +kernel
theorem dX10_ruin_76 : decode cX10_ruin 76 = .ok (.ireturn, 1) := by decide +kernel
theorem dX10_ruin_77 : decode cX10_ruin 77 = .ok (.iinc 4 1, 3) := by decide +kernel
theorem dX10_ruin_80 : decode cX10_ruin 80 = .ok (.goto (-29), 3) := by decide +kernel
theorem dX10_ruin_83 : decode cX10_ruin 83 = .ok (.ldc 182, 2) := by decide +kernel
theorem dX10_ruin_85 : decode cX10_ruin 85 = .ok (.ireturn, 1) := by decide +kernel
theorem dX10_settled_0 : decode cX10_settled 0 = .ok (.iload_n 1, 1) := by decide +kernel
theorem dX10_settled_1 : decode cX10_settled 1 = .ok (.iconst 0, 1) := by decide +kernel
theorem dX10_settled_2 : decode cX10_settled 2 = .ok (.iconst 2, 1) := by decide +kernel
theorem dX10_settled_3 : decode cX10_settled 3 = .ok (.invokestatic 31, 3) := by decide +kernel
theorem dX10_settled_6 : decode cX10_settled 6 = .ok (.ifCond .eq 14, 3) := by decide +kernel
theorem dX10_settled_9 : decode cX10_settled 9 = .ok (.iload_n 2, 1) := by decide +kernel
theorem dX10_settled_10 : decode cX10_settled 10 = .ok (.iconst 1, 1) := by decide +kernel
theorem dX10_settled_11 : decode cX10_settled 11 = .ok (.sipush 9999, 3) := by decide +kernel
theorem dX10_settled_14 : decode cX10_settled 14 = .ok (.invokestatic 31, 3) := by decide +kernel
theorem dX10_settled_17 : decode cX10_settled 17 = .ok (.ifCond .ne 6, 3) := by decide +kernel
theorem dX10_settled_20 : decode cX10_settled 20 = .ok (.ldc 71, 2) := by decide +kernel
theorem dX10_settled_22 : decode cX10_settled 22 = .ok (.ireturn, 1) := by decide +kernel
theorem dX10_settled_23 : decode cX10_settled 23 = .ok (.aload_n 0, 1) := by decide +kernel
theorem dX10_settled_24 : decode cX10_settled 24 = .ok (.iload_n 1, 1) := by decide +kernel
theorem dX10_settled_25 : decode cX10_settled 25 = .ok (.invokevirtual 112, 3) := by decide +kernel
theorem dX10_settled_28 : decode cX10_settled 28 = .ok (.istore_n 3, 1) := by decide +kernel
theorem dX10_settled_29 : decode cX10_settled 29 = .ok (.iload_n 2, 1) := by decide +kernel
theorem dX10_settled_30 : decode cX10_settled 30 = .ok (.istore 4, 2) := by decide +kernel
theorem dX10_settled_32 : decode cX10_settled 32 = .ok (.iconst 0, 1) := by decide +kernel
theorem dX10_settled_33 : decode cX10_settled 33 = .ok (.istore 5, 2) := by decide +kernel
theorem dX10_settled_35 : decode cX10_settled 35 = .ok (.iconst 0, 1) := by decide +kernel
theorem dX10_settled_36 : decode cX10_settled 36 = .ok (.istore 6, 2) := by decide +kernel
theorem dX10_settled_38 : decode cX10_settled 38 = .ok (.iload 6, 2) := by decide +kernel
theorem dX10_settled_40 : decode cX10_settled 40 = .ok (.iload_n 3, 1) := by decide +kernel
theorem dX10_settled_41 : decode cX10_settled 41 = .ok (.if_icmp .ge 71, 3) := by decide +kernel
theorem dX10_settled_44 : decode cX10_settled 44 = .ok (.aload_n 0, 1) := by decide +kernel
theorem dX10_settled_45 : decode cX10_settled 45 = .ok (.getfield 28, 3) := by decide +kernel
theorem dX10_settled_48 : decode cX10_settled 48 = .ok (.iload 6, 2) := by decide +kernel
theorem dX10_settled_50 : decode cX10_settled 50 = .ok (.iaload, 1) := by decide +kernel
theorem dX10_settled_51 : decode cX10_settled 51 = .ok (.istore 7, 2) := by decide +kernel
theorem dX10_settled_53 : decode cX10_settled 53 = .ok (.aload_n 0, 1) := by decide +kernel
theorem dX10_settled_54 : decode cX10_settled 54 = .ok (.iload 7, 2) := by decide +kernel
theorem dX10_settled_56 : decode cX10_settled 56 = .ok (.iload 4, 2) := by decide +kernel
theorem dX10_settled_58 : decode cX10_settled 58 = .ok (.invokevirtual 96, 3) := by decide +kernel
theorem dX10_settled_61 : decode cX10_settled 61 = .ok (.iload 4, 2) := by decide +kernel
theorem dX10_settled_63 : decode cX10_settled 63 = .ok (.aload_n 0, 1) := by decide +kernel
theorem dX10_settled_64 : decode cX10_settled 64 = .ok (.getfield 90, 3) := by decide +kernel
theorem dX10_settled_67 : decode cX10_settled 67 = .ok (.aload_n 0, 1) := by decide +kernel
theorem dX10_settled_68 : decode cX10_settled 68 = .ok (.getfield 93, 3) := by decide +kernel
theorem dX10_settled_71 : decode cX10_settled 71 = .ok (.iadd, 1) := by decide +kernel
theorem dX10_settled_72 : decode cX10_settled 72 = .ok (.isub, 1) := by decide +kernel
theorem dX10_settled_73 : decode cX10_settled 73 = .ok (.istore 4, 2) := by decide +kernel
theorem dX10_settled_75 : decode cX10_settled 75 = .ok (.iload 5, 2) := by decide +kernel
theorem dX10_settled_77 : decode cX10_settled 77 = .ok (.aload_n 0, 1) := by decide +kernel
theorem dX10_settled_78 : decode cX10_settled 78 = .ok (.getfield 90, 3) := by decide +kernel
theorem dX10_settled_81 : decode cX10_settled 81 = .ok (.aload_n 0, 1) := by decide +kernel
theorem dX10_settled_82 : decode cX10_settled 82 = .ok (.getfield 93, 3) := by decide +kernel
theorem dX10_settled_85 : decode cX10_settled 85 = .ok (.iadd, 1) := by decide +kernel
theorem dX10_settled_86 : decode cX10_settled 86 = .ok (.aload_n 0, 1) := by decide +kernel
theorem dX10_settled_87 : decode cX10_settled 87 = .ok (.iload 7, 2) := by decide +kernel
theorem dX10_settled_89 : decode cX10_settled 89 = .ok (.invokevirtual 106, 3) := by decide +kernel
theorem dX10_settled_92 : decode cX10_settled 92 = .ok (.if_icmp .ne 10, 3) := by decide +kernel
theorem dX10_settled_95 : decode cX10_settled 95 = .ok (.iconst 1, 1) := by decide +kernel
theorem dX10_settled_96 : decode cX10_settled 96 = .ok (.iload 7, 2) := by decide +kernel
theorem dX10_settled_98 : decode cX10_settled 98 = .ok (.ishl, 1) := by decide +kernel
theorem dX10_settled_99 : decode cX10_settled 99 = .ok (.goto 4, 3) := by decide +kernel
theorem dX10_settled_102 : decode cX10_settled 102 = .ok (.iconst 0, 1) := by decide +kernel
theorem dX10_settled_103 : decode cX10_settled 103 = .ok (.ior, 1) := by decide +kernel
theorem dX10_settled_104 : decode cX10_settled 104 = .ok (.istore 5, 2) := by decide +kernel
theorem dX10_settled_106 : decode cX10_settled 106 = .ok (.iinc 6 1, 3) := by decide +kernel
theorem dX10_settled_109 : decode cX10_settled 109 = .ok (.goto (-71), 3) := by decide +kernel
theorem dX10_settled_112 : decode cX10_settled 112 = .ok (.iload 5, 2) := by decide +kernel
theorem dX10_settled_114 : decode cX10_settled 114 = .ok (.ireturn, 1) := by decide +kernel
theorem dX10_needed_0 : decode cX10_needed 0 = .ok (.iconst 0, 1) := by decide +kernel
theorem dX10_needed_1 : decode cX10_needed 1 = .ok (.istore_n 1, 1) := by decide +kernel
theorem dX10_needed_2 : decode cX10_needed 2 = .ok (.iconst 0, 1) := by decide +kernel
theorem dX10_needed_3 : decode cX10_needed 3 = .ok (.istore_n 2, 1) := by decide +kernel
theorem dX10_needed_4 : decode cX10_needed 4 = .ok (.iload_n 2, 1) := by decide +kernel
theorem dX10_needed_5 : decode cX10_needed 5 = .ok (.aload_n 0, 1) := by decide +kernel
theorem dX10_needed_6 : decode cX10_needed 6 = .ok (.getfield 7, 3) := by decide +kernel
theorem dX10_needed_9 : decode cX10_needed 9 = .ok (.iconst 1, 1) := by decide +kernel
theorem dX10_needed_10 : decode cX10_needed 10 = .ok (.iaload, 1) := by decide +kernel
theorem dX10_needed_11 : decode cX10_needed 11 = .ok (.if_icmp .ge 37, 3) := by decide +kernel
theorem dX10_needed_14 : decode cX10_needed 14 = .ok (.iload_n 1, 1) := by decide +kernel
theorem dX10_needed_15 : decode cX10_needed 15 = .ok (.aload_n 0, 1) := by decide +kernel
theorem dX10_needed_16 : decode cX10_needed 16 = .ok (.iload_n 2, 1) := by decide +kernel
theorem dX10_needed_17 : decode cX10_needed 17 = .ok (.invokevirtual 76, 3) := by decide +kernel
theorem dX10_needed_20 : decode cX10_needed 20 = .ok (.ifCond .eq 19, 3) := by decide +kernel
theorem dX10_needed_23 : decode cX10_needed 23 = .ok (.aload_n 0, 1) := by decide +kernel
theorem dX10_needed_24 : decode cX10_needed 24 = .ok (.iload_n 2, 1) := by decide +kernel
theorem dX10_needed_25 : decode cX10_needed 25 = .ok (.invokevirtual 61, 3) := by decide +kernel
theorem dX10_needed_28 : decode cX10_needed 28 = .ok (.ifCond .ne 11, 3) := by decide +kernel
theorem dX10_needed_31 : decode cX10_needed 31 = .ok (.aload_n 0, 1) := by decide +kernel
theorem dX10_needed_32 : decode cX10_needed 32 = .ok (.iload_n 2, 1) := by decide +kernel
theorem dX10_needed_33 : decode cX10_needed 33 = .ok (.invokevirtual 106, 3) := by decide +kernel
theorem dX10_needed_36 : decode cX10_needed 36 = .ok (.goto 4, 3) := by decide +kernel
theorem dX10_needed_39 : decode cX10_needed 39 = .ok (.iconst 0, 1) := by decide +kernel
theorem dX10_needed_40 : decode cX10_needed 40 = .ok (.iadd, 1) := by decide +kernel
theorem dX10_needed_41 : decode cX10_needed 41 = .ok (.istore_n 1, 1) := by decide +kernel
theorem dX10_needed_42 : decode cX10_needed 42 = .ok (.iinc 2 1, 3) := by decide +kernel
theorem dX10_needed_45 : decode cX10_needed 45 = .ok (.goto (-41), 3) := by decide +kernel
theorem dX10_needed_48 : decode cX10_needed 48 = .ok (.iload_n 1, 1) := by decide +kernel
theorem dX10_needed_49 : decode cX10_needed 49 = .ok (.ireturn, 1) := by decide +kernel
theorem dX10_since_0 : decode cX10_since 0 = .ok (.aload_n 0, 1) := by decide +kernel
theorem dX10_since_1 : decode cX10_since 1 = .ok (.iload_n 1, 1) := by decide +kernel
theorem dX10_since_2 : decode cX10_since 2 = .ok (.invokevirtual 76, 3) := by decide +kernel
theorem dX10_since_5 : decode cX10_since 5 = .ok (.ifCond .ne 6, 3) := by decide +kernel
theorem dX10_since_8 : decode cX10_since 8 = .ok (.ldc 71, 2) := by decide +kernel
theorem dX10_since_10 : decode cX10_since 10 = .ok (.ireturn, 1) := by decide +kernel
theorem dX10_since_11 : decode cX10_since 11 = .ok (.aload_n 0, 1) := by decide +kernel
theorem dX10_since_12 : decode cX10_since 12 = .ok (.getfield 7, 3) := by decide +kernel
theorem dX10_since_15 : decode cX10_since 15 = .ok (.iconst 0, 1) := by decide +kernel
theorem dX10_since_16 : decode cX10_since 16 = .ok (.iaload, 1) := by decide +kernel
theorem dX10_since_17 : decode cX10_since 17 = .ok (.istore_n 2, 1) := by decide +kernel
theorem dX10_since_18 : decode cX10_since 18 = .ok (.aload_n 0, 1) := by decide +kernel
theorem dX10_since_19 : decode cX10_since 19 = .ok (.iload_n 1, 1) := by decide +kernel
theorem dX10_since_20 : decode cX10_since 20 = .ok (.iload_n 2, 1) := by decide +kernel
theorem dX10_since_21 : decode cX10_since 21 = .ok (.invokevirtual 183, 3) := by decide +kernel
theorem dX10_since_24 : decode cX10_since 24 = .ok (.istore_n 3, 1) := by decide +kernel
theorem dX10_since_25 : decode cX10_since 25 = .ok (.iload_n 2, 1) := by decide +kernel
theorem dX10_since_26 : decode cX10_since 26 = .ok (.ifCond .le 21, 3) := by decide +kernel
theorem dX10_since_29 : decode cX10_since 29 = .ok (.aload_n 0, 1) := by decide +kernel
theorem dX10_since_30 : decode cX10_since 30 = .ok (.iload_n 1, 1) := by decide +kernel
theorem dX10_since_31 : decode cX10_since 31 = .ok (.iload_n 2, 1) := by decide +kernel
theorem dX10_since_32 : decode cX10_since 32 = .ok (.iconst 1, 1) := by decide +kernel
theorem dX10_since_33 : decode cX10_since 33 = .ok (.isub, 1) := by decide +kernel
theorem dX10_since_34 : decode cX10_since 34 = .ok (.invokevirtual 183, 3) := by decide +kernel
theorem dX10_since_37 : decode cX10_since 37 = .ok (.iload_n 3, 1) := by decide +kernel
theorem dX10_since_38 : decode cX10_since 38 = .ok (.if_icmp .ne 9, 3) := by decide +kernel
theorem dX10_since_41 : decode cX10_since 41 = .ok (.iinc 2 (-1), 3) := by decide +kernel
theorem dX10_since_44 : decode cX10_since 44 = .ok (.goto (-19), 3) := by decide +kernel
theorem dX10_since_47 : decode cX10_since 47 = .ok (.iload_n 2, 1) := by decide +kernel
theorem dX10_since_48 : decode cX10_since 48 = .ok (.ireturn, 1) := by decide +kernel
theorem dJ6_bitCount_0f7a4_0 : decode cJ6_bitCount_0f7a4 0 = .ok (.iload_n 0, 1) := by decide +kernel
theorem dJ6_bitCount_0f7a4_1 : decode cJ6_bitCount_0f7a4 1 = .ok (.iload_n 0, 1) := by decide +kernel
theorem dJ6_bitCount_0f7a4_2 : decode cJ6_bitCount_0f7a4 2 = .ok (.iconst 1, 1) := by decide +kernel
theorem dJ6_bitCount_0f7a4_3 : decode cJ6_bitCount_0f7a4 3 = .ok (.iushr, 1) := by decide +kernel
theorem dJ6_bitCount_0f7a4_4 : decode cJ6_bitCount_0f7a4 4 = .ok (.ldc_w 265, 3) := by decide +kernel
theorem dJ6_bitCount_0f7a4_7 : decode cJ6_bitCount_0f7a4 7 = .ok (.iand, 1) := by decide +kernel
theorem dJ6_bitCount_0f7a4_8 : decode cJ6_bitCount_0f7a4 8 = .ok (.isub, 1) := by decide +kernel
theorem dJ6_bitCount_0f7a4_9 : decode cJ6_bitCount_0f7a4 9 = .ok (.istore_n 0, 1) := by decide +kernel
theorem dJ6_bitCount_0f7a4_10 : decode cJ6_bitCount_0f7a4 10 = .ok (.iload_n 0, 1) := by decide +kernel
theorem dJ6_bitCount_0f7a4_11 : decode cJ6_bitCount_0f7a4 11 = .ok (.ldc_w 266, 3) := by decide +kernel
theorem dJ6_bitCount_0f7a4_14 : decode cJ6_bitCount_0f7a4 14 = .ok (.iand, 1) := by decide +kernel
theorem dJ6_bitCount_0f7a4_15 : decode cJ6_bitCount_0f7a4 15 = .ok (.iload_n 0, 1) := by decide +kernel
theorem dJ6_bitCount_0f7a4_16 : decode cJ6_bitCount_0f7a4 16 = .ok (.iconst 2, 1) := by decide +kernel
theorem dJ6_bitCount_0f7a4_17 : decode cJ6_bitCount_0f7a4 17 = .ok (.iushr, 1) := by decide +kernel
theorem dJ6_bitCount_0f7a4_18 : decode cJ6_bitCount_0f7a4 18 = .ok (.ldc_w 266, 3) := by decide +kernel
theorem dJ6_bitCount_0f7a4_21 : decode cJ6_bitCount_0f7a4 21 = .ok (.iand, 1) := by decide +kernel
theorem dJ6_bitCount_0f7a4_22 : decode cJ6_bitCount_0f7a4 22 = .ok (.iadd, 1) := by decide +kernel
theorem dJ6_bitCount_0f7a4_23 : decode cJ6_bitCount_0f7a4 23 = .ok (.istore_n 0, 1) := by decide +kernel
theorem dJ6_bitCount_0f7a4_24 : decode cJ6_bitCount_0f7a4 24 = .ok (.iload_n 0, 1) := by decide +kernel
theorem dJ6_bitCount_0f7a4_25 : decode cJ6_bitCount_0f7a4 25 = .ok (.iload_n 0, 1) := by decide +kernel
theorem dJ6_bitCount_0f7a4_26 : decode cJ6_bitCount_0f7a4 26 = .ok (.iconst 4, 1) := by decide +kernel
theorem dJ6_bitCount_0f7a4_27 : decode cJ6_bitCount_0f7a4 27 = .ok (.iushr, 1) := by decide +kernel
theorem dJ6_bitCount_0f7a4_28 : decode cJ6_bitCount_0f7a4 28 = .ok (.iadd, 1) := by decide +kernel
theorem dJ6_bitCount_0f7a4_29 : decode cJ6_bitCount_0f7a4 29 = .ok (.ldc_w 267, 3) := by decide +kernel
theorem dJ6_bitCount_0f7a4_32 : decode cJ6_bitCount_0f7a4 32 = .ok (.iand, 1) := by decide +kernel
theorem dJ6_bitCount_0f7a4_33 : decode cJ6_bitCount_0f7a4 33 = .ok (.istore_n 0, 1) := by decide +kernel
theorem dJ6_bitCount_0f7a4_34 : decode cJ6_bitCount_0f7a4 34 = .ok (.iload_n 0, 1) := by decide +kernel
theorem dJ6_bitCount_0f7a4_35 : decode cJ6_bitCount_0f7a4 35 = .ok (.iload_n 0, 1) := by decide +kernel
theorem dJ6_bitCount_0f7a4_36 : decode cJ6_bitCount_0f7a4 36 = .ok (.bipush 8, 2) := by decide +kernel
theorem dJ6_bitCount_0f7a4_38 : decode cJ6_bitCount_0f7a4 38 = .ok (.iushr, 1) := by decide +kernel
theorem dJ6_bitCount_0f7a4_39 : decode cJ6_bitCount_0f7a4 39 = .ok (.iadd, 1) := by decide +kernel
theorem dJ6_bitCount_0f7a4_40 : decode cJ6_bitCount_0f7a4 40 = .ok (.istore_n 0, 1) := by decide +kernel
theorem dJ6_bitCount_0f7a4_41 : decode cJ6_bitCount_0f7a4 41 = .ok (.iload_n 0, 1) := by decide +kernel
theorem dJ6_bitCount_0f7a4_42 : decode cJ6_bitCount_0f7a4 42 = .ok (.iload_n 0, 1) := by decide +kernel
theorem dJ6_bitCount_0f7a4_43 : decode cJ6_bitCount_0f7a4 43 = .ok (.bipush 16, 2) := by decide +kernel
theorem dJ6_bitCount_0f7a4_45 : decode cJ6_bitCount_0f7a4 45 = .ok (.iushr, 1) := by decide +kernel
theorem dJ6_bitCount_0f7a4_46 : decode cJ6_bitCount_0f7a4 46 = .ok (.iadd, 1) := by decide +kernel
theorem dJ6_bitCount_0f7a4_47 : decode cJ6_bitCount_0f7a4 47 = .ok (.istore_n 0, 1) := by decide +kernel
theorem dJ6_bitCount_0f7a4_48 : decode cJ6_bitCount_0f7a4 48 = .ok (.iload_n 0, 1) := by decide +kernel
theorem dJ6_bitCount_0f7a4_49 : decode cJ6_bitCount_0f7a4 49 = .ok (.bipush 63, 2) := by decide +kernel
theorem dJ6_bitCount_0f7a4_51 : decode cJ6_bitCount_0f7a4 51 = .ok (.iand, 1) := by decide +kernel
theorem dJ6_bitCount_0f7a4_52 : decode cJ6_bitCount_0f7a4 52 = .ok (.ireturn, 1) := by decide +kernel
theorem dJ9_max_7cf53_0 : decode cJ9_max_7cf53 0 = .ok (.iload_n 0, 1) := by decide +kernel
theorem dJ9_max_7cf53_1 : decode cJ9_max_7cf53 1 = .ok (.iload_n 1, 1) := by decide +kernel
theorem dJ9_max_7cf53_2 : decode cJ9_max_7cf53 2 = .ok (.if_icmp .lt 7, 3) := by decide +kernel
theorem dJ9_max_7cf53_5 : decode cJ9_max_7cf53 5 = .ok (.iload_n 0, 1) := by decide +kernel
theorem dJ9_max_7cf53_6 : decode cJ9_max_7cf53 6 = .ok (.goto 4, 3) := by decide +kernel
theorem dJ9_max_7cf53_9 : decode cJ9_max_7cf53 9 = .ok (.iload_n 1, 1) := by decide +kernel
theorem dJ9_max_7cf53_10 : decode cJ9_max_7cf53 10 = .ok (.ireturn, 1) := by decide +kernel
theorem dJ9_min_7cf53_0 : decode cJ9_min_7cf53 0 = .ok (.iload_n 0, 1) := by decide +kernel
theorem dJ9_min_7cf53_1 : decode cJ9_min_7cf53 1 = .ok (.iload_n 1, 1) := by decide +kernel
theorem dJ9_min_7cf53_2 : decode cJ9_min_7cf53 2 = .ok (.if_icmp .gt 7, 3) := by decide +kernel
theorem dJ9_min_7cf53_5 : decode cJ9_min_7cf53 5 = .ok (.iload_n 0, 1) := by decide +kernel
theorem dJ9_min_7cf53_6 : decode cJ9_min_7cf53 6 = .ok (.goto 4, 3) := by decide +kernel
theorem dJ9_min_7cf53_9 : decode cJ9_min_7cf53 9 = .ok (.iload_n 1, 1) := by decide +kernel
theorem dJ9_min_7cf53_10 : decode cJ9_min_7cf53 10 = .ok (.ireturn, 1) := by decide +kernel
theorem dJ0_length_8abf5_0 : decode cJ0_length_8abf5 0 = .ok (.aload_n 0, 1) := by decide +kernel
theorem dJ0_length_8abf5_1 : decode cJ0_length_8abf5 1 = .ok (.getfield 9, 3) := by decide +kernel
theorem dJ0_length_8abf5_4 : decode cJ0_length_8abf5 4 = .ok (.arraylength, 1) := by decide +kernel
theorem dJ0_length_8abf5_5 : decode cJ0_length_8abf5 5 = .ok (.aload_n 0, 1) := by decide +kernel
theorem dJ0_length_8abf5_6 : decode cJ0_length_8abf5 6 = .ok (.invokevirtual 335, 3) := by decide +kernel
theorem dJ0_length_8abf5_9 : decode cJ0_length_8abf5 9 = .ok (.ishr, 1) := by decide +kernel
theorem dJ0_length_8abf5_10 : decode cJ0_length_8abf5 10 = .ok (.ireturn, 1) := by decide +kernel
theorem dJ0_charAt_5068e_0 : decode cJ0_charAt_5068e 0 = .ok (.aload_n 0, 1) := by decide +kernel
theorem dJ0_charAt_5068e_1 : decode cJ0_charAt_5068e 1 = .ok (.invokevirtual 492, 3) := by decide +kernel
theorem dJ0_charAt_5068e_4 : decode cJ0_charAt_5068e 4 = .ok (.ifCond .eq 12, 3) := by decide +kernel
theorem dJ0_charAt_5068e_7 : decode cJ0_charAt_5068e 7 = .ok (.aload_n 0, 1) := by decide +kernel
theorem dJ0_charAt_5068e_8 : decode cJ0_charAt_5068e 8 = .ok (.getfield 9, 3) := by decide +kernel
theorem dJ0_charAt_5068e_11 : decode cJ0_charAt_5068e 11 = .ok (.iload_n 1, 1) := by decide +kernel
theorem dJ0_charAt_5068e_12 : decode cJ0_charAt_5068e 12 = .ok (.invokestatic 495, 3) := by decide +kernel
theorem dJ0_charAt_5068e_15 : decode cJ0_charAt_5068e 15 = .ok (.ireturn, 1) := by decide +kernel
theorem dJ0_charAt_5068e_16 : decode cJ0_charAt_5068e 16 = .ok (.aload_n 0, 1) := by decide +kernel
theorem dJ0_charAt_5068e_17 : decode cJ0_charAt_5068e 17 = .ok (.getfield 9, 3) := by decide +kernel
theorem dJ0_charAt_5068e_20 : decode cJ0_charAt_5068e 20 = .ok (.iload_n 1, 1) := by decide +kernel
theorem dJ0_charAt_5068e_21 : decode cJ0_charAt_5068e 21 = .ok (.invokestatic 498, 3) := by decide +kernel
theorem dJ0_charAt_5068e_24 : decode cJ0_charAt_5068e 24 = .ok (.ireturn, 1) := by decide +kernel
theorem dJ0_coder_7d493_0 : decode cJ0_coder_7d493 0 = .ok (.getstatic 38, 3) := by decide +kernel
theorem dJ0_coder_7d493_3 : decode cJ0_coder_7d493 3 = .ok (.ifCond .eq 10, 3) := by decide +kernel
theorem dJ0_coder_7d493_6 : decode cJ0_coder_7d493 6 = .ok (.aload_n 0, 1) := by decide +kernel
theorem dJ0_coder_7d493_7 : decode cJ0_coder_7d493 7 = .ok (.getfield 15, 3) := by decide +kernel
theorem dJ0_coder_7d493_10 : decode cJ0_coder_7d493 10 = .ok (.goto 4, 3) := by decide +kernel
theorem dJ0_coder_7d493_13 : decode cJ0_coder_7d493 13 = .ok (.iconst 1, 1) := by decide +kernel
theorem dJ0_coder_7d493_14 : decode cJ0_coder_7d493 14 = .ok (.ireturn, 1) := by decide +kernel
theorem dJ0_isLatin1_aae02_0 : decode cJ0_isLatin1_aae02 0 = .ok (.getstatic 38, 3) := by decide +kernel
theorem dJ0_isLatin1_aae02_3 : decode cJ0_isLatin1_aae02 3 = .ok (.ifCond .eq 14, 3) := by decide +kernel
theorem dJ0_isLatin1_aae02_6 : decode cJ0_isLatin1_aae02 6 = .ok (.aload_n 0, 1) := by decide +kernel
theorem dJ0_isLatin1_aae02_7 : decode cJ0_isLatin1_aae02 7 = .ok (.getfield 15, 3) := by decide +kernel
theorem dJ0_isLatin1_aae02_10 : decode cJ0_isLatin1_aae02 10 = .ok (.ifCond .ne 7, 3) := by decide +kernel
theorem dJ0_isLatin1_aae02_13 : decode cJ0_isLatin1_aae02 13 = .ok (.iconst 1, 1) := by decide +kernel
theorem dJ0_isLatin1_aae02_14 : decode cJ0_isLatin1_aae02 14 = .ok (.goto 4, 3) := by decide +kernel
theorem dJ0_isLatin1_aae02_17 : decode cJ0_isLatin1_aae02 17 = .ok (.iconst 0, 1) := by decide +kernel
theorem dJ0_isLatin1_aae02_18 : decode cJ0_isLatin1_aae02 18 = .ok (.ireturn, 1) := by decide +kernel
theorem dJ0_checkIndex_df160_0 : decode cJ0_checkIndex_df160 0 = .ok (.iload_n 0, 1) := by decide +kernel
theorem dJ0_checkIndex_df160_1 : decode cJ0_checkIndex_df160 1 = .ok (.iload_n 1, 1) := by decide +kernel
theorem dJ0_checkIndex_df160_2 : decode cJ0_checkIndex_df160 2 = .ok (.getstatic 1053, 3) := by decide +kernel
theorem dJ0_checkIndex_df160_5 : decode cJ0_checkIndex_df160 5 = .ok (.invokestatic 1059, 3) := by decide +kernel
theorem dJ0_checkIndex_df160_8 : decode cJ0_checkIndex_df160 8 = .ok (.pop, 1) := by decide +kernel
theorem dJ0_checkIndex_df160_9 : decode cJ0_checkIndex_df160 9 = .ok (.return_, 1) := by decide +kernel
theorem dJ1_charAt_3b067_0 : decode cJ1_charAt_3b067 0 = .ok (.iload_n 1, 1) := by decide +kernel
theorem dJ1_charAt_3b067_1 : decode cJ1_charAt_3b067 1 = .ok (.aload_n 0, 1) := by decide +kernel
theorem dJ1_charAt_3b067_2 : decode cJ1_charAt_3b067 2 = .ok (.arraylength, 1) := by decide +kernel
theorem dJ1_charAt_3b067_3 : decode cJ1_charAt_3b067 3 = .ok (.invokestatic 9, 3) := by decide +kernel
theorem dJ1_charAt_3b067_6 : decode cJ1_charAt_3b067 6 = .ok (.aload_n 0, 1) := by decide +kernel
theorem dJ1_charAt_3b067_7 : decode cJ1_charAt_3b067 7 = .ok (.iload_n 1, 1) := by decide +kernel
theorem dJ1_charAt_3b067_8 : decode cJ1_charAt_3b067 8 = .ok (.baload, 1) := by decide +kernel
theorem dJ1_charAt_3b067_9 : decode cJ1_charAt_3b067 9 = .ok (.sipush 255, 3) := by decide +kernel
theorem dJ1_charAt_3b067_12 : decode cJ1_charAt_3b067 12 = .ok (.iand, 1) := by decide +kernel
theorem dJ1_charAt_3b067_13 : decode cJ1_charAt_3b067 13 = .ok (.i2c, 1) := by decide +kernel
theorem dJ1_charAt_3b067_14 : decode cJ1_charAt_3b067 14 = .ok (.ireturn, 1) := by decide +kernel
theorem dJ2_getChar_3b067_0 : decode cJ2_getChar_3b067 0 = .ok (.getstatic 44, 3) := by decide +kernel
theorem dJ2_getChar_3b067_3 : decode cJ2_getChar_3b067 3 = .ok (.ifCond .ne 25, 3) := by decide +kernel
theorem dJ2_getChar_3b067_6 : decode cJ2_getChar_3b067 6 = .ok (.iload_n 1, 1) := by decide +kernel
theorem dJ2_getChar_3b067_7 : decode cJ2_getChar_3b067 7 = .ok (.ifCond .lt 11, 3) := by decide +kernel
theorem dJ2_getChar_3b067_10 : decode cJ2_getChar_3b067 10 = .ok (.iload_n 1, 1) := by decide +kernel
theorem dJ2_getChar_3b067_11 : decode cJ2_getChar_3b067 11 = .ok (.aload_n 0, 1) := by decide +kernel
theorem dJ2_getChar_3b067_12 : decode cJ2_getChar_3b067 12 = .ok (.invokestatic 48, 3) := by decide +kernel
theorem dJ2_getChar_3b067_15 : decode cJ2_getChar_3b067 15 = .ok (.if_icmp .lt 13, 3) := by decide +kernel
theorem dJ2_getChar_3b067_18 : decode cJ2_getChar_3b067 18 = .ok (.new 52, 3) := by decide +kernel
theorem dJ2_getChar_3b067_21 : decode cJ2_getChar_3b067 21 = .ok (.dup, 1) := by decide +kernel
theorem dJ2_getChar_3b067_22 : decode cJ2_getChar_3b067 22 = .ok (.ldc 54, 2) := by decide +kernel
theorem dJ2_getChar_3b067_24 : decode cJ2_getChar_3b067 24 = .ok (.invokespecial 56, 3) := by decide +kernel
theorem dJ2_getChar_3b067_27 : decode cJ2_getChar_3b067 27 = .ok (.athrow, 1) := by decide +kernel
theorem dJ2_getChar_3b067_28 : decode cJ2_getChar_3b067 28 = .ok (.iload_n 1, 1) := by decide +kernel
theorem dJ2_getChar_3b067_29 : decode cJ2_getChar_3b067 29 = .ok (.iconst 1, 1) := by decide +kernel
theorem dJ2_getChar_3b067_30 : decode cJ2_getChar_3b067 30 = .ok (.ishl, 1) := by decide +kernel
theorem dJ2_getChar_3b067_31 : decode cJ2_getChar_3b067 31 = .ok (.istore_n 1, 1) := by decide +kernel
theorem dJ2_getChar_3b067_32 : decode cJ2_getChar_3b067 32 = .ok (.aload_n 0, 1) := by decide +kernel
theorem dJ2_getChar_3b067_33 : decode cJ2_getChar_3b067 33 = .ok (.iload_n 1, 1) := by decide +kernel
theorem dJ2_getChar_3b067_34 : decode cJ2_getChar_3b067 34 = .ok (.iinc 1 1, 3) := by decide +kernel
theorem dJ2_getChar_3b067_37 : decode cJ2_getChar_3b067 37 = .ok (.baload, 1) := by decide +kernel
theorem dJ2_getChar_3b067_38 : decode cJ2_getChar_3b067 38 = .ok (.sipush 255, 3) := by decide +kernel
theorem dJ2_getChar_3b067_41 : decode cJ2_getChar_3b067 41 = .ok (.iand, 1) := by decide +kernel
theorem dJ2_getChar_3b067_42 : decode cJ2_getChar_3b067 42 = .ok (.getstatic 59, 3) := by decide +kernel
theorem dJ2_getChar_3b067_45 : decode cJ2_getChar_3b067 45 = .ok (.ishl, 1) := by decide +kernel
theorem dJ2_getChar_3b067_46 : decode cJ2_getChar_3b067 46 = .ok (.aload_n 0, 1) := by decide +kernel
theorem dJ2_getChar_3b067_47 : decode cJ2_getChar_3b067 47 = .ok (.iload_n 1, 1) := by decide +kernel
theorem dJ2_getChar_3b067_48 : decode cJ2_getChar_3b067 48 = .ok (.baload, 1) := by decide +kernel
theorem dJ2_getChar_3b067_49 : decode cJ2_getChar_3b067 49 = .ok (.sipush 255, 3) := by decide +kernel
theorem dJ2_getChar_3b067_52 : decode cJ2_getChar_3b067 52 = .ok (.iand, 1) := by decide +kernel
theorem dJ2_getChar_3b067_53 : decode cJ2_getChar_3b067 53 = .ok (.getstatic 63, 3) := by decide +kernel
theorem dJ2_getChar_3b067_56 : decode cJ2_getChar_3b067 56 = .ok (.ishl, 1) := by decide +kernel
theorem dJ2_getChar_3b067_57 : decode cJ2_getChar_3b067 57 = .ok (.ior, 1) := by decide +kernel
theorem dJ2_getChar_3b067_58 : decode cJ2_getChar_3b067 58 = .ok (.i2c, 1) := by decide +kernel
theorem dJ2_getChar_3b067_59 : decode cJ2_getChar_3b067 59 = .ok (.ireturn, 1) := by decide +kernel
theorem dJ2_length_9d52b_0 : decode cJ2_length_9d52b 0 = .ok (.aload_n 0, 1) := by decide +kernel
theorem dJ2_length_9d52b_1 : decode cJ2_length_9d52b 1 = .ok (.arraylength, 1) := by decide +kernel
theorem dJ2_length_9d52b_2 : decode cJ2_length_9d52b 2 = .ok (.iconst 1, 1) := by decide +kernel
theorem dJ2_length_9d52b_3 : decode cJ2_length_9d52b 3 = .ok (.ishr, 1) := by decide +kernel
theorem dJ2_length_9d52b_4 : decode cJ2_length_9d52b 4 = .ok (.ireturn, 1) := by decide +kernel
theorem dJ2_charAt_3b067_0 : decode cJ2_charAt_3b067 0 = .ok (.iload_n 1, 1) := by decide +kernel
theorem dJ2_charAt_3b067_1 : decode cJ2_charAt_3b067 1 = .ok (.aload_n 0, 1) := by decide +kernel
theorem dJ2_charAt_3b067_2 : decode cJ2_charAt_3b067 2 = .ok (.invokestatic 67, 3) := by decide +kernel
theorem dJ2_charAt_3b067_5 : decode cJ2_charAt_3b067 5 = .ok (.aload_n 0, 1) := by decide +kernel
theorem dJ2_charAt_3b067_6 : decode cJ2_charAt_3b067 6 = .ok (.iload_n 1, 1) := by decide +kernel
theorem dJ2_charAt_3b067_7 : decode cJ2_charAt_3b067 7 = .ok (.invokestatic 71, 3) := by decide +kernel
theorem dJ2_charAt_3b067_10 : decode cJ2_charAt_3b067 10 = .ok (.ireturn, 1) := by decide +kernel
theorem dJ2_checkIndex_2214a_0 : decode cJ2_checkIndex_2214a 0 = .ok (.iload_n 0, 1) := by decide +kernel
theorem dJ2_checkIndex_2214a_1 : decode cJ2_checkIndex_2214a 1 = .ok (.aload_n 1, 1) := by decide +kernel
theorem dJ2_checkIndex_2214a_2 : decode cJ2_checkIndex_2214a 2 = .ok (.invokestatic 48, 3) := by decide +kernel
theorem dJ2_checkIndex_2214a_5 : decode cJ2_checkIndex_2214a 5 = .ok (.invokestatic 414, 3) := by decide +kernel
theorem dJ2_checkIndex_2214a_8 : decode cJ2_checkIndex_2214a 8 = .ok (.return_, 1) := by decide +kernel
theorem dJ3_checkIndex_8e157_0 : decode cJ3_checkIndex_8e157 0 = .ok (.iload_n 0, 1) := by decide +kernel
theorem dJ3_checkIndex_8e157_1 : decode cJ3_checkIndex_8e157 1 = .ok (.ifCond .lt 8, 3) := by decide +kernel
theorem dJ3_checkIndex_8e157_4 : decode cJ3_checkIndex_8e157 4 = .ok (.iload_n 0, 1) := by decide +kernel
theorem dJ3_checkIndex_8e157_5 : decode cJ3_checkIndex_8e157 5 = .ok (.iload_n 1, 1) := by decide +kernel
theorem dJ3_checkIndex_8e157_6 : decode cJ3_checkIndex_8e157 6 = .ok (.if_icmp .lt 10, 3) := by decide +kernel
theorem dJ3_checkIndex_8e157_9 : decode cJ3_checkIndex_8e157 9 = .ok (.aload_n 2, 1) := by decide +kernel
theorem dJ3_checkIndex_8e157_10 : decode cJ3_checkIndex_8e157 10 = .ok (.iload_n 0, 1) := by decide +kernel
theorem dJ3_checkIndex_8e157_11 : decode cJ3_checkIndex_8e157 11 = .ok (.iload_n 1, 1) := by decide +kernel
theorem dJ3_checkIndex_8e157_12 : decode cJ3_checkIndex_8e157 12 = .ok (.invokestatic 95, 3) := by decide +kernel
theorem dJ3_checkIndex_8e157_15 : decode cJ3_checkIndex_8e157 15 = .ok (.athrow, 1) := by decide +kernel
theorem dJ3_checkIndex_8e157_16 : decode cJ3_checkIndex_8e157 16 = .ok (.iload_n 0, 1) := by decide +kernel
theorem dJ3_checkIndex_8e157_17 : decode cJ3_checkIndex_8e157 17 = .ok (.ireturn, 1) := by decide +kernel
theorem dL_law_0 : decode cL_law 0 = .ok (.new 7, 3) := by decide +kernel
theorem dL_law_3 : decode cL_law 3 = .ok (.dup, 1) := by decide +kernel
theorem dL_law_4 : decode cL_law 4 = .ok (.invokespecial 9, 3) := by decide +kernel
theorem dL_law_7 : decode cL_law 7 = .ok (.astore_n 1, 1) := by decide +kernel
theorem dL_law_8 : decode cL_law 8 = .ok (.new 10, 3) := by decide +kernel
theorem dL_law_11 : decode cL_law 11 = .ok (.dup, 1) := by decide +kernel
theorem dL_law_12 : decode cL_law 12 = .ok (.invokespecial 12, 3) := by decide +kernel
theorem dL_law_15 : decode cL_law 15 = .ok (.astore_n 2, 1) := by decide +kernel
theorem dL_law_16 : decode cL_law 16 = .ok (.iconst 0, 1) := by decide +kernel
theorem dL_law_17 : decode cL_law 17 = .ok (.istore_n 3, 1) := by decide +kernel
theorem dL_law_18 : decode cL_law 18 = .ok (.iload_n 3, 1) := by decide +kernel
theorem dL_law_19 : decode cL_law 19 = .ok (.aload_n 0, 1) := by decide +kernel
theorem dL_law_20 : decode cL_law 20 = .ok (.arraylength, 1) := by decide +kernel
theorem dL_law_21 : decode cL_law 21 = .ok (.iconst 4, 1) := by decide +kernel
theorem dL_law_22 : decode cL_law 22 = .ok (.isub, 1) := by decide +kernel
theorem dL_law_23 : decode cL_law 23 = .ok (.if_icmp .gt 729, 3) := by decide +kernel
theorem dL_law_26 : decode cL_law 26 = .ok (.aload_n 0, 1) := by decide +kernel
theorem dL_law_27 : decode cL_law 27 = .ok (.iload_n 3, 1) := by decide +kernel
theorem dL_law_28 : decode cL_law 28 = .ok (.iaload, 1) := by decide +kernel
theorem dL_law_29 : decode cL_law 29 = .ok (.bipush 31, 2) := by decide +kernel
theorem dL_law_31 : decode cL_law 31 = .ok (.iand, 1) := by decide +kernel
theorem dL_law_32 : decode cL_law 32 = .ok (.tableswitch 714 0 23 #[112, 155, 168, 191, 224, 247, 260, 293, 306, 329, 352, 375, 388, 411, 424, 447, 490, 523, 556, 579, 622, 645, 678, 691], 112) := by decide +kernel
theorem dL_law_144 : decode cL_law 144 = .ok (.aload_n 1, 1) := by decide +kernel
theorem dL_law_145 : decode cL_law 145 = .ok (.aload_n 0, 1) := by decide +kernel
theorem dL_law_146 : decode cL_law 146 = .ok (.iload_n 3, 1) := by decide +kernel
theorem dL_law_147 : decode cL_law 147 = .ok (.iconst 1, 1) := by decide +kernel
theorem dL_law_148 : decode cL_law 148 = .ok (.iadd, 1) := by decide +kernel
theorem dL_law_149 : decode cL_law 149 = .ok (.iaload, 1) := by decide +kernel
theorem dL_law_150 : decode cL_law 150 = .ok (.aload_n 0, 1) := by decide +kernel
theorem dL_law_151 : decode cL_law 151 = .ok (.iload_n 3, 1) := by decide +kernel
theorem dL_law_152 : decode cL_law 152 = .ok (.iconst 2, 1) := by decide +kernel
theorem dL_law_153 : decode cL_law 153 = .ok (.iadd, 1) := by decide +kernel
theorem dL_law_154 : decode cL_law 154 = .ok (.iaload, 1) := by decide +kernel
theorem dL_law_155 : decode cL_law 155 = .ok (.aload_n 0, 1) := by decide +kernel
theorem dL_law_156 : decode cL_law 156 = .ok (.iload_n 3, 1) := by decide +kernel
theorem dL_law_157 : decode cL_law 157 = .ok (.iconst 3, 1) := by decide +kernel
theorem dL_law_158 : decode cL_law 158 = .ok (.iadd, 1) := by decide +kernel
theorem dL_law_159 : decode cL_law 159 = .ok (.iaload, 1) := by decide +kernel
theorem dL_law_160 : decode cL_law 160 = .ok (.invokevirtual 13, 3) := by decide +kernel
theorem dL_law_163 : decode cL_law 163 = .ok (.aload_n 2, 1) := by decide +kernel
theorem dL_law_164 : decode cL_law 164 = .ok (.aload_n 0, 1) := by decide +kernel
theorem dL_law_165 : decode cL_law 165 = .ok (.iload_n 3, 1) := by decide +kernel
theorem dL_law_166 : decode cL_law 166 = .ok (.iconst 1, 1) := by decide +kernel
theorem dL_law_167 : decode cL_law 167 = .ok (.iadd, 1) := by decide +kernel
theorem dL_law_168 : decode cL_law 168 = .ok (.iaload, 1) := by decide +kernel
theorem dL_law_169 : decode cL_law 169 = .ok (.aload_n 0, 1) := by decide +kernel
theorem dL_law_170 : decode cL_law 170 = .ok (.iload_n 3, 1) := by decide +kernel
theorem dL_law_171 : decode cL_law 171 = .ok (.iconst 2, 1) := by decide +kernel
theorem dL_law_172 : decode cL_law 172 = .ok (.iadd, 1) := by decide +kernel
theorem dL_law_173 : decode cL_law 173 = .ok (.iaload, 1) := by decide +kernel
theorem dL_law_174 : decode cL_law 174 = .ok (.aload_n 0, 1) := by decide +kernel
theorem dL_law_175 : decode cL_law 175 = .ok (.iload_n 3, 1) := by decide +kernel
theorem dL_law_176 : decode cL_law 176 = .ok (.iconst 3, 1) := by decide +kernel
theorem dL_law_177 : decode cL_law 177 = .ok (.iadd, 1) := by decide +kernel
theorem dL_law_178 : decode cL_law 178 = .ok (.iaload, 1) := by decide +kernel
theorem dL_law_179 : decode cL_law 179 = .ok (.invokevirtual 17, 3) := by decide +kernel
theorem dL_law_182 : decode cL_law 182 = .ok (.if_icmp .eq 564, 3) := by decide +kernel
theorem dL_law_185 : decode cL_law 185 = .ok (.iconst 0, 1) := by decide +kernel
theorem dL_law_186 : decode cL_law 186 = .ok (.ireturn, 1) := by decide +kernel
theorem dL_law_187 : decode cL_law 187 = .ok (.aload_n 1, 1) := by decide +kernel
theorem dL_law_188 : decode cL_law 188 = .ok (.invokevirtual 18, 3) := by decide +kernel
theorem dL_law_191 : decode cL_law 191 = .ok (.aload_n 2, 1) := by decide +kernel
theorem dL_law_192 : decode cL_law 192 = .ok (.invokevirtual 22, 3) := by decide +kernel
theorem dL_law_195 : decode cL_law 195 = .ok (.if_icmp .eq 551, 3) := by decide +kernel
theorem dL_law_198 : decode cL_law 198 = .ok (.iconst 0, 1) := by decide +kernel
theorem dL_law_199 : decode cL_law 199 = .ok (.ireturn, 1) := by decide +kernel
theorem dL_law_200 : decode cL_law 200 = .ok (.aload_n 1, 1) := by decide +kernel
theorem dL_law_201 : decode cL_law 201 = .ok (.aload_n 0, 1) := by decide +kernel
theorem dL_law_202 : decode cL_law 202 = .ok (.iload_n 3, 1) := by decide +kernel
theorem dL_law_203 : decode cL_law 203 = .ok (.iconst 1, 1) := by decide +kernel
theorem dL_law_204 : decode cL_law 204 = .ok (.iadd, 1) := by decide +kernel
theorem dL_law_205 : decode cL_law 205 = .ok (.iaload, 1) := by decide +kernel
theorem dL_law_206 : decode cL_law 206 = .ok (.invokevirtual 23, 3) := by decide +kernel
theorem dL_law_209 : decode cL_law 209 = .ok (.aload_n 2, 1) := by decide +kernel
theorem dL_law_210 : decode cL_law 210 = .ok (.aload_n 0, 1) := by decide +kernel
theorem dL_law_211 : decode cL_law 211 = .ok (.iload_n 3, 1) := by decide +kernel
theorem dL_law_212 : decode cL_law 212 = .ok (.iconst 1, 1) := by decide +kernel
theorem dL_law_213 : decode cL_law 213 = .ok (.iadd, 1) := by decide +kernel
theorem dL_law_214 : decode cL_law 214 = .ok (.iaload, 1) := by decide +kernel
theorem dL_law_215 : decode cL_law 215 = .ok (.invokevirtual 27, 3) := by decide +kernel
theorem dL_law_218 : decode cL_law 218 = .ok (.if_icmp .eq 528, 3) := by decide +kernel
theorem dL_law_221 : decode cL_law 221 = .ok (.iconst 0, 1) := by decide +kernel
theorem dL_law_222 : decode cL_law 222 = .ok (.ireturn, 1) := by decide +kernel
theorem dL_law_223 : decode cL_law 223 = .ok (.aload_n 1, 1) := by decide +kernel
theorem dL_law_224 : decode cL_law 224 = .ok (.aload_n 0, 1) := by decide +kernel
theorem dL_law_225 : decode cL_law 225 = .ok (.iload_n 3, 1) := by decide +kernel
theorem dL_law_226 : decode cL_law 226 = .ok (.iconst 1, 1) := by decide +kernel
theorem dL_law_227 : decode cL_law 227 = .ok (.iadd, 1) := by decide +kernel
theorem dL_law_228 : decode cL_law 228 = .ok (.iaload, 1) := by decide +kernel
theorem dL_law_229 : decode cL_law 229 = .ok (.aload_n 0, 1) := by decide +kernel
theorem dL_law_230 : decode cL_law 230 = .ok (.iload_n 3, 1) := by decide +kernel
theorem dL_law_231 : decode cL_law 231 = .ok (.iconst 2, 1) := by decide +kernel
theorem dL_law_232 : decode cL_law 232 = .ok (.iadd, 1) := by decide +kernel
theorem dL_law_233 : decode cL_law 233 = .ok (.iaload, 1) := by decide +kernel
theorem dL_law_234 : decode cL_law 234 = .ok (.invokevirtual 28, 3) := by decide +kernel
theorem dL_law_237 : decode cL_law 237 = .ok (.aload_n 2, 1) := by decide +kernel
theorem dL_law_238 : decode cL_law 238 = .ok (.aload_n 0, 1) := by decide +kernel
theorem dL_law_239 : decode cL_law 239 = .ok (.iload_n 3, 1) := by decide +kernel
theorem dL_law_240 : decode cL_law 240 = .ok (.iconst 1, 1) := by decide +kernel
theorem dL_law_241 : decode cL_law 241 = .ok (.iadd, 1) := by decide +kernel
theorem dL_law_242 : decode cL_law 242 = .ok (.iaload, 1) := by decide +kernel
theorem dL_law_243 : decode cL_law 243 = .ok (.aload_n 0, 1) := by decide +kernel
theorem dL_law_244 : decode cL_law 244 = .ok (.iload_n 3, 1) := by decide +kernel
theorem dL_law_245 : decode cL_law 245 = .ok (.iconst 2, 1) := by decide +kernel
theorem dL_law_246 : decode cL_law 246 = .ok (.iadd, 1) := by decide +kernel
theorem dL_law_247 : decode cL_law 247 = .ok (.iaload, 1) := by decide +kernel
theorem dL_law_248 : decode cL_law 248 = .ok (.invokevirtual 32, 3) := by decide +kernel
theorem dL_law_251 : decode cL_law 251 = .ok (.if_icmp .eq 495, 3) := by decide +kernel
theorem dL_law_254 : decode cL_law 254 = .ok (.iconst 0, 1) := by decide +kernel
theorem dL_law_255 : decode cL_law 255 = .ok (.ireturn, 1) := by decide +kernel
theorem dL_law_256 : decode cL_law 256 = .ok (.aload_n 1, 1) := by decide +kernel
theorem dL_law_257 : decode cL_law 257 = .ok (.aload_n 0, 1) := by decide +kernel
theorem dL_law_258 : decode cL_law 258 = .ok (.iload_n 3, 1) := by decide +kernel
theorem dL_law_259 : decode cL_law 259 = .ok (.iconst 1, 1) := by decide +kernel
theorem dL_law_260 : decode cL_law 260 = .ok (.iadd, 1) := by decide +kernel
theorem dL_law_261 : decode cL_law 261 = .ok (.iaload, 1) := by decide +kernel
theorem dL_law_262 : decode cL_law 262 = .ok (.invokevirtual 33, 3) := by decide +kernel
theorem dL_law_265 : decode cL_law 265 = .ok (.aload_n 2, 1) := by decide +kernel
theorem dL_law_266 : decode cL_law 266 = .ok (.aload_n 0, 1) := by decide +kernel
theorem dL_law_267 : decode cL_law 267 = .ok (.iload_n 3, 1) := by decide +kernel
theorem dL_law_268 : decode cL_law 268 = .ok (.iconst 1, 1) := by decide +kernel
theorem dL_law_269 : decode cL_law 269 = .ok (.iadd, 1) := by decide +kernel
theorem dL_law_270 : decode cL_law 270 = .ok (.iaload, 1) := by decide +kernel
theorem dL_law_271 : decode cL_law 271 = .ok (.invokevirtual 36, 3) := by decide +kernel
theorem dL_law_274 : decode cL_law 274 = .ok (.if_icmp .eq 472, 3) := by decide +kernel
theorem dL_law_277 : decode cL_law 277 = .ok (.iconst 0, 1) := by decide +kernel
theorem dL_law_278 : decode cL_law 278 = .ok (.ireturn, 1) := by decide +kernel
theorem dL_law_279 : decode cL_law 279 = .ok (.aload_n 1, 1) := by decide +kernel
theorem dL_law_280 : decode cL_law 280 = .ok (.invokevirtual 37, 3) := by decide +kernel
theorem dL_law_283 : decode cL_law 283 = .ok (.aload_n 2, 1) := by decide +kernel
theorem dL_law_284 : decode cL_law 284 = .ok (.invokevirtual 40, 3) := by decide +kernel
theorem dL_law_287 : decode cL_law 287 = .ok (.if_icmp .eq 459, 3) := by decide +kernel
theorem dL_law_290 : decode cL_law 290 = .ok (.iconst 0, 1) := by decide +kernel
theorem dL_law_291 : decode cL_law 291 = .ok (.ireturn, 1) := by decide +kernel
theorem dL_law_292 : decode cL_law 292 = .ok (.aload_n 1, 1) := by decide +kernel
theorem dL_law_293 : decode cL_law 293 = .ok (.aload_n 0, 1) := by decide +kernel
theorem dL_law_294 : decode cL_law 294 = .ok (.iload_n 3, 1) := by decide +kernel
theorem dL_law_295 : decode cL_law 295 = .ok (.iconst 1, 1) := by decide +kernel
theorem dL_law_296 : decode cL_law 296 = .ok (.iadd, 1) := by decide +kernel
theorem dL_law_297 : decode cL_law 297 = .ok (.iaload, 1) := by decide +kernel
theorem dL_law_298 : decode cL_law 298 = .ok (.aload_n 0, 1) := by decide +kernel
theorem dL_law_299 : decode cL_law 299 = .ok (.iload_n 3, 1) := by decide +kernel
theorem dL_law_300 : decode cL_law 300 = .ok (.iconst 2, 1) := by decide +kernel
theorem dL_law_301 : decode cL_law 301 = .ok (.iadd, 1) := by decide +kernel
theorem dL_law_302 : decode cL_law 302 = .ok (.iaload, 1) := by decide +kernel
theorem dL_law_303 : decode cL_law 303 = .ok (.invokevirtual 41, 3) := by decide +kernel
theorem dL_law_306 : decode cL_law 306 = .ok (.aload_n 2, 1) := by decide +kernel
theorem dL_law_307 : decode cL_law 307 = .ok (.aload_n 0, 1) := by decide +kernel
theorem dL_law_308 : decode cL_law 308 = .ok (.iload_n 3, 1) := by decide +kernel
theorem dL_law_309 : decode cL_law 309 = .ok (.iconst 1, 1) := by decide +kernel
theorem dL_law_310 : decode cL_law 310 = .ok (.iadd, 1) := by decide +kernel
theorem dL_law_311 : decode cL_law 311 = .ok (.iaload, 1) := by decide +kernel
theorem dL_law_312 : decode cL_law 312 = .ok (.aload_n 0, 1) := by decide +kernel
theorem dL_law_313 : decode cL_law 313 = .ok (.iload_n 3, 1) := by decide +kernel
theorem dL_law_314 : decode cL_law 314 = .ok (.iconst 2, 1) := by decide +kernel
theorem dL_law_315 : decode cL_law 315 = .ok (.iadd, 1) := by decide +kernel
theorem dL_law_316 : decode cL_law 316 = .ok (.iaload, 1) := by decide +kernel
theorem dL_law_317 : decode cL_law 317 = .ok (.invokevirtual 44, 3) := by decide +kernel
theorem dL_law_320 : decode cL_law 320 = .ok (.if_icmp .eq 426, 3) := by decide +kernel
theorem dL_law_323 : decode cL_law 323 = .ok (.iconst 0, 1) := by decide +kernel
theorem dL_law_324 : decode cL_law 324 = .ok (.ireturn, 1) := by decide +kernel
theorem dL_law_325 : decode cL_law 325 = .ok (.aload_n 1, 1) := by decide +kernel
theorem dL_law_326 : decode cL_law 326 = .ok (.invokevirtual 45, 3) := by decide +kernel
theorem dL_law_329 : decode cL_law 329 = .ok (.aload_n 2, 1) := by decide +kernel
theorem dL_law_330 : decode cL_law 330 = .ok (.invokevirtual 48, 3) := by decide +kernel
theorem dL_law_333 : decode cL_law 333 = .ok (.if_icmp .eq 413, 3) := by decide +kernel
theorem dL_law_336 : decode cL_law 336 = .ok (.iconst 0, 1) := by decide +kernel
theorem dL_law_337 : decode cL_law 337 = .ok (.ireturn, 1) := by decide +kernel
theorem dL_law_338 : decode cL_law 338 = .ok (.aload_n 1, 1) := by decide +kernel
theorem dL_law_339 : decode cL_law 339 = .ok (.aload_n 0, 1) := by decide +kernel
theorem dL_law_340 : decode cL_law 340 = .ok (.iload_n 3, 1) := by decide +kernel
theorem dL_law_341 : decode cL_law 341 = .ok (.iconst 1, 1) := by decide +kernel
theorem dL_law_342 : decode cL_law 342 = .ok (.iadd, 1) := by decide +kernel
theorem dL_law_343 : decode cL_law 343 = .ok (.iaload, 1) := by decide +kernel
theorem dL_law_344 : decode cL_law 344 = .ok (.invokevirtual 49, 3) := by decide +kernel
theorem dL_law_347 : decode cL_law 347 = .ok (.aload_n 2, 1) := by decide +kernel
theorem dL_law_348 : decode cL_law 348 = .ok (.aload_n 0, 1) := by decide +kernel
theorem dL_law_349 : decode cL_law 349 = .ok (.iload_n 3, 1) := by decide +kernel
theorem dL_law_350 : decode cL_law 350 = .ok (.iconst 1, 1) := by decide +kernel
theorem dL_law_351 : decode cL_law 351 = .ok (.iadd, 1) := by decide +kernel
theorem dL_law_352 : decode cL_law 352 = .ok (.iaload, 1) := by decide +kernel
theorem dL_law_353 : decode cL_law 353 = .ok (.invokevirtual 52, 3) := by decide +kernel
theorem dL_law_356 : decode cL_law 356 = .ok (.if_icmp .eq 390, 3) := by decide +kernel
theorem dL_law_359 : decode cL_law 359 = .ok (.iconst 0, 1) := by decide +kernel
theorem dL_law_360 : decode cL_law 360 = .ok (.ireturn, 1) := by decide +kernel
theorem dL_law_361 : decode cL_law 361 = .ok (.aload_n 1, 1) := by decide +kernel
theorem dL_law_362 : decode cL_law 362 = .ok (.aload_n 0, 1) := by decide +kernel
theorem dL_law_363 : decode cL_law 363 = .ok (.iload_n 3, 1) := by decide +kernel
theorem dL_law_364 : decode cL_law 364 = .ok (.iconst 1, 1) := by decide +kernel
theorem dL_law_365 : decode cL_law 365 = .ok (.iadd, 1) := by decide +kernel
theorem dL_law_366 : decode cL_law 366 = .ok (.iaload, 1) := by decide +kernel
theorem dL_law_367 : decode cL_law 367 = .ok (.invokevirtual 53, 3) := by decide +kernel
theorem dL_law_370 : decode cL_law 370 = .ok (.aload_n 2, 1) := by decide +kernel
theorem dL_law_371 : decode cL_law 371 = .ok (.aload_n 0, 1) := by decide +kernel
theorem dL_law_372 : decode cL_law 372 = .ok (.iload_n 3, 1) := by decide +kernel
theorem dL_law_373 : decode cL_law 373 = .ok (.iconst 1, 1) := by decide +kernel
theorem dL_law_374 : decode cL_law 374 = .ok (.iadd, 1) := by decide +kernel
theorem dL_law_375 : decode cL_law 375 = .ok (.iaload, 1) := by decide +kernel
theorem dL_law_376 : decode cL_law 376 = .ok (.invokevirtual 56, 3) := by decide +kernel
theorem dL_law_379 : decode cL_law 379 = .ok (.if_icmp .eq 367, 3) := by decide +kernel
theorem dL_law_382 : decode cL_law 382 = .ok (.iconst 0, 1) := by decide +kernel
theorem dL_law_383 : decode cL_law 383 = .ok (.ireturn, 1) := by decide +kernel
theorem dL_law_384 : decode cL_law 384 = .ok (.aload_n 1, 1) := by decide +kernel
theorem dL_law_385 : decode cL_law 385 = .ok (.aload_n 0, 1) := by decide +kernel
theorem dL_law_386 : decode cL_law 386 = .ok (.iload_n 3, 1) := by decide +kernel
theorem dL_law_387 : decode cL_law 387 = .ok (.iconst 1, 1) := by decide +kernel
theorem dL_law_388 : decode cL_law 388 = .ok (.iadd, 1) := by decide +kernel
theorem dL_law_389 : decode cL_law 389 = .ok (.iaload, 1) := by decide +kernel
theorem dL_law_390 : decode cL_law 390 = .ok (.invokevirtual 57, 3) := by decide +kernel
theorem dL_law_393 : decode cL_law 393 = .ok (.aload_n 2, 1) := by decide +kernel
theorem dL_law_394 : decode cL_law 394 = .ok (.aload_n 0, 1) := by decide +kernel
theorem dL_law_395 : decode cL_law 395 = .ok (.iload_n 3, 1) := by decide +kernel
theorem dL_law_396 : decode cL_law 396 = .ok (.iconst 1, 1) := by decide +kernel
theorem dL_law_397 : decode cL_law 397 = .ok (.iadd, 1) := by decide +kernel
theorem dL_law_398 : decode cL_law 398 = .ok (.iaload, 1) := by decide +kernel
theorem dL_law_399 : decode cL_law 399 = .ok (.invokevirtual 60, 3) := by decide +kernel
theorem dL_law_402 : decode cL_law 402 = .ok (.if_icmp .eq 344, 3) := by decide +kernel
theorem dL_law_405 : decode cL_law 405 = .ok (.iconst 0, 1) := by decide +kernel
theorem dL_law_406 : decode cL_law 406 = .ok (.ireturn, 1) := by decide +kernel
theorem dL_law_407 : decode cL_law 407 = .ok (.aload_n 1, 1) := by decide +kernel
theorem dL_law_408 : decode cL_law 408 = .ok (.invokevirtual 61, 3) := by decide +kernel
theorem dL_law_411 : decode cL_law 411 = .ok (.aload_n 2, 1) := by decide +kernel
theorem dL_law_412 : decode cL_law 412 = .ok (.invokevirtual 64, 3) := by decide +kernel
theorem dL_law_415 : decode cL_law 415 = .ok (.if_icmp .eq 331, 3) := by decide +kernel
theorem dL_law_418 : decode cL_law 418 = .ok (.iconst 0, 1) := by decide +kernel
theorem dL_law_419 : decode cL_law 419 = .ok (.ireturn, 1) := by decide +kernel
theorem dL_law_420 : decode cL_law 420 = .ok (.aload_n 1, 1) := by decide +kernel
theorem dL_law_421 : decode cL_law 421 = .ok (.aload_n 0, 1) := by decide +kernel
theorem dL_law_422 : decode cL_law 422 = .ok (.iload_n 3, 1) := by decide +kernel
theorem dL_law_423 : decode cL_law 423 = .ok (.iconst 1, 1) := by decide +kernel
theorem dL_law_424 : decode cL_law 424 = .ok (.iadd, 1) := by decide +kernel
theorem dL_law_425 : decode cL_law 425 = .ok (.iaload, 1) := by decide +kernel
theorem dL_law_426 : decode cL_law 426 = .ok (.invokevirtual 65, 3) := by decide +kernel
theorem dL_law_429 : decode cL_law 429 = .ok (.aload_n 2, 1) := by decide +kernel
theorem dL_law_430 : decode cL_law 430 = .ok (.aload_n 0, 1) := by decide +kernel
theorem dL_law_431 : decode cL_law 431 = .ok (.iload_n 3, 1) := by decide +kernel
theorem dL_law_432 : decode cL_law 432 = .ok (.iconst 1, 1) := by decide +kernel
theorem dL_law_433 : decode cL_law 433 = .ok (.iadd, 1) := by decide +kernel
theorem dL_law_434 : decode cL_law 434 = .ok (.iaload, 1) := by decide +kernel
theorem dL_law_435 : decode cL_law 435 = .ok (.invokevirtual 68, 3) := by decide +kernel
theorem dL_law_438 : decode cL_law 438 = .ok (.if_icmp .eq 308, 3) := by decide +kernel
theorem dL_law_441 : decode cL_law 441 = .ok (.iconst 0, 1) := by decide +kernel
theorem dL_law_442 : decode cL_law 442 = .ok (.ireturn, 1) := by decide +kernel
theorem dL_law_443 : decode cL_law 443 = .ok (.aload_n 1, 1) := by decide +kernel
theorem dL_law_444 : decode cL_law 444 = .ok (.invokevirtual 69, 3) := by decide +kernel
theorem dL_law_447 : decode cL_law 447 = .ok (.aload_n 2, 1) := by decide +kernel
theorem dL_law_448 : decode cL_law 448 = .ok (.invokevirtual 72, 3) := by decide +kernel
theorem dL_law_451 : decode cL_law 451 = .ok (.if_icmp .eq 295, 3) := by decide +kernel
theorem dL_law_454 : decode cL_law 454 = .ok (.iconst 0, 1) := by decide +kernel
theorem dL_law_455 : decode cL_law 455 = .ok (.ireturn, 1) := by decide +kernel
theorem dL_law_456 : decode cL_law 456 = .ok (.aload_n 1, 1) := by decide +kernel
theorem dL_law_457 : decode cL_law 457 = .ok (.aload_n 0, 1) := by decide +kernel
theorem dL_law_458 : decode cL_law 458 = .ok (.iload_n 3, 1) := by decide +kernel
theorem dL_law_459 : decode cL_law 459 = .ok (.iconst 1, 1) := by decide +kernel
theorem dL_law_460 : decode cL_law 460 = .ok (.iadd, 1) := by decide +kernel
theorem dL_law_461 : decode cL_law 461 = .ok (.iaload, 1) := by decide +kernel
theorem dL_law_462 : decode cL_law 462 = .ok (.invokevirtual 73, 3) := by decide +kernel
theorem dL_law_465 : decode cL_law 465 = .ok (.aload_n 2, 1) := by decide +kernel
theorem dL_law_466 : decode cL_law 466 = .ok (.aload_n 0, 1) := by decide +kernel
theorem dL_law_467 : decode cL_law 467 = .ok (.iload_n 3, 1) := by decide +kernel
theorem dL_law_468 : decode cL_law 468 = .ok (.iconst 1, 1) := by decide +kernel
theorem dL_law_469 : decode cL_law 469 = .ok (.iadd, 1) := by decide +kernel
theorem dL_law_470 : decode cL_law 470 = .ok (.iaload, 1) := by decide +kernel
theorem dL_law_471 : decode cL_law 471 = .ok (.invokevirtual 76, 3) := by decide +kernel
theorem dL_law_474 : decode cL_law 474 = .ok (.if_icmp .eq 272, 3) := by decide +kernel
theorem dL_law_477 : decode cL_law 477 = .ok (.iconst 0, 1) := by decide +kernel
theorem dL_law_478 : decode cL_law 478 = .ok (.ireturn, 1) := by decide +kernel
theorem dL_law_479 : decode cL_law 479 = .ok (.aload_n 1, 1) := by decide +kernel
theorem dL_law_480 : decode cL_law 480 = .ok (.aload_n 0, 1) := by decide +kernel
theorem dL_law_481 : decode cL_law 481 = .ok (.iload_n 3, 1) := by decide +kernel
theorem dL_law_482 : decode cL_law 482 = .ok (.iconst 1, 1) := by decide +kernel
theorem dL_law_483 : decode cL_law 483 = .ok (.iadd, 1) := by decide +kernel
theorem dL_law_484 : decode cL_law 484 = .ok (.iaload, 1) := by decide +kernel
theorem dL_law_485 : decode cL_law 485 = .ok (.aload_n 0, 1) := by decide +kernel
theorem dL_law_486 : decode cL_law 486 = .ok (.iload_n 3, 1) := by decide +kernel
theorem dL_law_487 : decode cL_law 487 = .ok (.iconst 2, 1) := by decide +kernel
theorem dL_law_488 : decode cL_law 488 = .ok (.iadd, 1) := by decide +kernel
theorem dL_law_489 : decode cL_law 489 = .ok (.iaload, 1) := by decide +kernel
theorem dL_law_490 : decode cL_law 490 = .ok (.aload_n 0, 1) := by decide +kernel
theorem dL_law_491 : decode cL_law 491 = .ok (.iload_n 3, 1) := by decide +kernel
theorem dL_law_492 : decode cL_law 492 = .ok (.iconst 3, 1) := by decide +kernel
theorem dL_law_493 : decode cL_law 493 = .ok (.iadd, 1) := by decide +kernel
theorem dL_law_494 : decode cL_law 494 = .ok (.iaload, 1) := by decide +kernel
theorem dL_law_495 : decode cL_law 495 = .ok (.invokevirtual 77, 3) := by decide +kernel
theorem dL_law_498 : decode cL_law 498 = .ok (.aload_n 2, 1) := by decide +kernel
theorem dL_law_499 : decode cL_law 499 = .ok (.aload_n 0, 1) := by decide +kernel
theorem dL_law_500 : decode cL_law 500 = .ok (.iload_n 3, 1) := by decide +kernel
theorem dL_law_501 : decode cL_law 501 = .ok (.iconst 1, 1) := by decide +kernel
theorem dL_law_502 : decode cL_law 502 = .ok (.iadd, 1) := by decide +kernel
theorem dL_law_503 : decode cL_law 503 = .ok (.iaload, 1) := by decide +kernel
theorem dL_law_504 : decode cL_law 504 = .ok (.aload_n 0, 1) := by decide +kernel
theorem dL_law_505 : decode cL_law 505 = .ok (.iload_n 3, 1) := by decide +kernel
theorem dL_law_506 : decode cL_law 506 = .ok (.iconst 2, 1) := by decide +kernel
theorem dL_law_507 : decode cL_law 507 = .ok (.iadd, 1) := by decide +kernel
theorem dL_law_508 : decode cL_law 508 = .ok (.iaload, 1) := by decide +kernel
theorem dL_law_509 : decode cL_law 509 = .ok (.aload_n 0, 1) := by decide +kernel
theorem dL_law_510 : decode cL_law 510 = .ok (.iload_n 3, 1) := by decide +kernel
theorem dL_law_511 : decode cL_law 511 = .ok (.iconst 3, 1) := by decide +kernel
theorem dL_law_512 : decode cL_law 512 = .ok (.iadd, 1) := by decide +kernel
theorem dL_law_513 : decode cL_law 513 = .ok (.iaload, 1) := by decide +kernel
theorem dL_law_514 : decode cL_law 514 = .ok (.invokevirtual 80, 3) := by decide +kernel
theorem dL_law_517 : decode cL_law 517 = .ok (.if_icmp .eq 229, 3) := by decide +kernel
theorem dL_law_520 : decode cL_law 520 = .ok (.iconst 0, 1) := by decide +kernel
theorem dL_law_521 : decode cL_law 521 = .ok (.ireturn, 1) := by decide +kernel
theorem dL_law_522 : decode cL_law 522 = .ok (.aload_n 1, 1) := by decide +kernel
theorem dL_law_523 : decode cL_law 523 = .ok (.aload_n 0, 1) := by decide +kernel
theorem dL_law_524 : decode cL_law 524 = .ok (.iload_n 3, 1) := by decide +kernel
theorem dL_law_525 : decode cL_law 525 = .ok (.iconst 1, 1) := by decide +kernel
theorem dL_law_526 : decode cL_law 526 = .ok (.iadd, 1) := by decide +kernel
theorem dL_law_527 : decode cL_law 527 = .ok (.iaload, 1) := by decide +kernel
theorem dL_law_528 : decode cL_law 528 = .ok (.aload_n 0, 1) := by decide +kernel
theorem dL_law_529 : decode cL_law 529 = .ok (.iload_n 3, 1) := by decide +kernel
theorem dL_law_530 : decode cL_law 530 = .ok (.iconst 2, 1) := by decide +kernel
theorem dL_law_531 : decode cL_law 531 = .ok (.iadd, 1) := by decide +kernel
theorem dL_law_532 : decode cL_law 532 = .ok (.iaload, 1) := by decide +kernel
theorem dL_law_533 : decode cL_law 533 = .ok (.invokevirtual 81, 3) := by decide +kernel
theorem dL_law_536 : decode cL_law 536 = .ok (.aload_n 2, 1) := by decide +kernel
theorem dL_law_537 : decode cL_law 537 = .ok (.aload_n 0, 1) := by decide +kernel
theorem dL_law_538 : decode cL_law 538 = .ok (.iload_n 3, 1) := by decide +kernel
theorem dL_law_539 : decode cL_law 539 = .ok (.iconst 1, 1) := by decide +kernel
theorem dL_law_540 : decode cL_law 540 = .ok (.iadd, 1) := by decide +kernel
theorem dL_law_541 : decode cL_law 541 = .ok (.iaload, 1) := by decide +kernel
theorem dL_law_542 : decode cL_law 542 = .ok (.aload_n 0, 1) := by decide +kernel
theorem dL_law_543 : decode cL_law 543 = .ok (.iload_n 3, 1) := by decide +kernel
theorem dL_law_544 : decode cL_law 544 = .ok (.iconst 2, 1) := by decide +kernel
theorem dL_law_545 : decode cL_law 545 = .ok (.iadd, 1) := by decide +kernel
theorem dL_law_546 : decode cL_law 546 = .ok (.iaload, 1) := by decide +kernel
theorem dL_law_547 : decode cL_law 547 = .ok (.invokevirtual 84, 3) := by decide +kernel
theorem dL_law_550 : decode cL_law 550 = .ok (.if_icmp .eq 196, 3) := by decide +kernel
theorem dL_law_553 : decode cL_law 553 = .ok (.iconst 0, 1) := by decide +kernel
theorem dL_law_554 : decode cL_law 554 = .ok (.ireturn, 1) := by decide +kernel
theorem dL_law_555 : decode cL_law 555 = .ok (.aload_n 1, 1) := by decide +kernel
theorem dL_law_556 : decode cL_law 556 = .ok (.aload_n 0, 1) := by decide +kernel
theorem dL_law_557 : decode cL_law 557 = .ok (.iload_n 3, 1) := by decide +kernel
theorem dL_law_558 : decode cL_law 558 = .ok (.iconst 1, 1) := by decide +kernel
theorem dL_law_559 : decode cL_law 559 = .ok (.iadd, 1) := by decide +kernel
theorem dL_law_560 : decode cL_law 560 = .ok (.iaload, 1) := by decide +kernel
theorem dL_law_561 : decode cL_law 561 = .ok (.aload_n 0, 1) := by decide +kernel
theorem dL_law_562 : decode cL_law 562 = .ok (.iload_n 3, 1) := by decide +kernel
theorem dL_law_563 : decode cL_law 563 = .ok (.iconst 2, 1) := by decide +kernel
theorem dL_law_564 : decode cL_law 564 = .ok (.iadd, 1) := by decide +kernel
theorem dL_law_565 : decode cL_law 565 = .ok (.iaload, 1) := by decide +kernel
theorem dL_law_566 : decode cL_law 566 = .ok (.invokevirtual 85, 3) := by decide +kernel
theorem dL_law_569 : decode cL_law 569 = .ok (.aload_n 2, 1) := by decide +kernel
theorem dL_law_570 : decode cL_law 570 = .ok (.aload_n 0, 1) := by decide +kernel
theorem dL_law_571 : decode cL_law 571 = .ok (.iload_n 3, 1) := by decide +kernel
theorem dL_law_572 : decode cL_law 572 = .ok (.iconst 1, 1) := by decide +kernel
theorem dL_law_573 : decode cL_law 573 = .ok (.iadd, 1) := by decide +kernel
theorem dL_law_574 : decode cL_law 574 = .ok (.iaload, 1) := by decide +kernel
theorem dL_law_575 : decode cL_law 575 = .ok (.aload_n 0, 1) := by decide +kernel
theorem dL_law_576 : decode cL_law 576 = .ok (.iload_n 3, 1) := by decide +kernel
theorem dL_law_577 : decode cL_law 577 = .ok (.iconst 2, 1) := by decide +kernel
theorem dL_law_578 : decode cL_law 578 = .ok (.iadd, 1) := by decide +kernel
theorem dL_law_579 : decode cL_law 579 = .ok (.iaload, 1) := by decide +kernel
theorem dL_law_580 : decode cL_law 580 = .ok (.invokevirtual 88, 3) := by decide +kernel
theorem dL_law_583 : decode cL_law 583 = .ok (.if_icmp .eq 163, 3) := by decide +kernel
theorem dL_law_586 : decode cL_law 586 = .ok (.iconst 0, 1) := by decide +kernel
theorem dL_law_587 : decode cL_law 587 = .ok (.ireturn, 1) := by decide +kernel
theorem dL_law_588 : decode cL_law 588 = .ok (.aload_n 1, 1) := by decide +kernel
theorem dL_law_589 : decode cL_law 589 = .ok (.aload_n 0, 1) := by decide +kernel
theorem dL_law_590 : decode cL_law 590 = .ok (.iload_n 3, 1) := by decide +kernel
theorem dL_law_591 : decode cL_law 591 = .ok (.iconst 1, 1) := by decide +kernel
theorem dL_law_592 : decode cL_law 592 = .ok (.iadd, 1) := by decide +kernel
theorem dL_law_593 : decode cL_law 593 = .ok (.iaload, 1) := by decide +kernel
theorem dL_law_594 : decode cL_law 594 = .ok (.invokevirtual 89, 3) := by decide +kernel
theorem dL_law_597 : decode cL_law 597 = .ok (.aload_n 2, 1) := by decide +kernel
theorem dL_law_598 : decode cL_law 598 = .ok (.aload_n 0, 1) := by decide +kernel
theorem dL_law_599 : decode cL_law 599 = .ok (.iload_n 3, 1) := by decide +kernel
theorem dL_law_600 : decode cL_law 600 = .ok (.iconst 1, 1) := by decide +kernel
theorem dL_law_601 : decode cL_law 601 = .ok (.iadd, 1) := by decide +kernel
theorem dL_law_602 : decode cL_law 602 = .ok (.iaload, 1) := by decide +kernel
theorem dL_law_603 : decode cL_law 603 = .ok (.invokevirtual 92, 3) := by decide +kernel
theorem dL_law_606 : decode cL_law 606 = .ok (.if_icmp .eq 140, 3) := by decide +kernel
theorem dL_law_609 : decode cL_law 609 = .ok (.iconst 0, 1) := by decide +kernel
theorem dL_law_610 : decode cL_law 610 = .ok (.ireturn, 1) := by decide +kernel
theorem dL_law_611 : decode cL_law 611 = .ok (.aload_n 1, 1) := by decide +kernel
theorem dL_law_612 : decode cL_law 612 = .ok (.aload_n 0, 1) := by decide +kernel
theorem dL_law_613 : decode cL_law 613 = .ok (.iload_n 3, 1) := by decide +kernel
theorem dL_law_614 : decode cL_law 614 = .ok (.iconst 1, 1) := by decide +kernel
theorem dL_law_615 : decode cL_law 615 = .ok (.iadd, 1) := by decide +kernel
theorem dL_law_616 : decode cL_law 616 = .ok (.iaload, 1) := by decide +kernel
theorem dL_law_617 : decode cL_law 617 = .ok (.aload_n 0, 1) := by decide +kernel
theorem dL_law_618 : decode cL_law 618 = .ok (.iload_n 3, 1) := by decide +kernel
theorem dL_law_619 : decode cL_law 619 = .ok (.iconst 2, 1) := by decide +kernel
theorem dL_law_620 : decode cL_law 620 = .ok (.iadd, 1) := by decide +kernel
theorem dL_law_621 : decode cL_law 621 = .ok (.iaload, 1) := by decide +kernel
theorem dL_law_622 : decode cL_law 622 = .ok (.aload_n 0, 1) := by decide +kernel
theorem dL_law_623 : decode cL_law 623 = .ok (.iload_n 3, 1) := by decide +kernel
theorem dL_law_624 : decode cL_law 624 = .ok (.iconst 3, 1) := by decide +kernel
theorem dL_law_625 : decode cL_law 625 = .ok (.iadd, 1) := by decide +kernel
theorem dL_law_626 : decode cL_law 626 = .ok (.iaload, 1) := by decide +kernel
theorem dL_law_627 : decode cL_law 627 = .ok (.invokevirtual 93, 3) := by decide +kernel
theorem dL_law_630 : decode cL_law 630 = .ok (.aload_n 2, 1) := by decide +kernel
theorem dL_law_631 : decode cL_law 631 = .ok (.aload_n 0, 1) := by decide +kernel
theorem dL_law_632 : decode cL_law 632 = .ok (.iload_n 3, 1) := by decide +kernel
theorem dL_law_633 : decode cL_law 633 = .ok (.iconst 1, 1) := by decide +kernel
theorem dL_law_634 : decode cL_law 634 = .ok (.iadd, 1) := by decide +kernel
theorem dL_law_635 : decode cL_law 635 = .ok (.iaload, 1) := by decide +kernel
theorem dL_law_636 : decode cL_law 636 = .ok (.aload_n 0, 1) := by decide +kernel
theorem dL_law_637 : decode cL_law 637 = .ok (.iload_n 3, 1) := by decide +kernel
theorem dL_law_638 : decode cL_law 638 = .ok (.iconst 2, 1) := by decide +kernel
theorem dL_law_639 : decode cL_law 639 = .ok (.iadd, 1) := by decide +kernel
theorem dL_law_640 : decode cL_law 640 = .ok (.iaload, 1) := by decide +kernel
theorem dL_law_641 : decode cL_law 641 = .ok (.aload_n 0, 1) := by decide +kernel
theorem dL_law_642 : decode cL_law 642 = .ok (.iload_n 3, 1) := by decide +kernel
theorem dL_law_643 : decode cL_law 643 = .ok (.iconst 3, 1) := by decide +kernel
theorem dL_law_644 : decode cL_law 644 = .ok (.iadd, 1) := by decide +kernel
theorem dL_law_645 : decode cL_law 645 = .ok (.iaload, 1) := by decide +kernel
theorem dL_law_646 : decode cL_law 646 = .ok (.invokevirtual 96, 3) := by decide +kernel
theorem dL_law_649 : decode cL_law 649 = .ok (.if_icmp .eq 97, 3) := by decide +kernel
theorem dL_law_652 : decode cL_law 652 = .ok (.iconst 0, 1) := by decide +kernel
theorem dL_law_653 : decode cL_law 653 = .ok (.ireturn, 1) := by decide +kernel
theorem dL_law_654 : decode cL_law 654 = .ok (.aload_n 1, 1) := by decide +kernel
theorem dL_law_655 : decode cL_law 655 = .ok (.aload_n 0, 1) := by decide +kernel
theorem dL_law_656 : decode cL_law 656 = .ok (.iload_n 3, 1) := by decide +kernel
theorem dL_law_657 : decode cL_law 657 = .ok (.iconst 1, 1) := by decide +kernel
theorem dL_law_658 : decode cL_law 658 = .ok (.iadd, 1) := by decide +kernel
theorem dL_law_659 : decode cL_law 659 = .ok (.iaload, 1) := by decide +kernel
theorem dL_law_660 : decode cL_law 660 = .ok (.invokevirtual 97, 3) := by decide +kernel
theorem dL_law_663 : decode cL_law 663 = .ok (.aload_n 2, 1) := by decide +kernel
theorem dL_law_664 : decode cL_law 664 = .ok (.aload_n 0, 1) := by decide +kernel
theorem dL_law_665 : decode cL_law 665 = .ok (.iload_n 3, 1) := by decide +kernel
theorem dL_law_666 : decode cL_law 666 = .ok (.iconst 1, 1) := by decide +kernel
theorem dL_law_667 : decode cL_law 667 = .ok (.iadd, 1) := by decide +kernel
theorem dL_law_668 : decode cL_law 668 = .ok (.iaload, 1) := by decide +kernel
theorem dL_law_669 : decode cL_law 669 = .ok (.invokevirtual 100, 3) := by decide +kernel
theorem dL_law_672 : decode cL_law 672 = .ok (.if_icmp .eq 74, 3) := by decide +kernel
theorem dL_law_675 : decode cL_law 675 = .ok (.iconst 0, 1) := by decide +kernel
theorem dL_law_676 : decode cL_law 676 = .ok (.ireturn, 1) := by decide +kernel
theorem dL_law_677 : decode cL_law 677 = .ok (.aload_n 1, 1) := by decide +kernel
theorem dL_law_678 : decode cL_law 678 = .ok (.aload_n 0, 1) := by decide +kernel
theorem dL_law_679 : decode cL_law 679 = .ok (.iload_n 3, 1) := by decide +kernel
theorem dL_law_680 : decode cL_law 680 = .ok (.iconst 1, 1) := by decide +kernel
theorem dL_law_681 : decode cL_law 681 = .ok (.iadd, 1) := by decide +kernel
theorem dL_law_682 : decode cL_law 682 = .ok (.iaload, 1) := by decide +kernel
theorem dL_law_683 : decode cL_law 683 = .ok (.aload_n 0, 1) := by decide +kernel
theorem dL_law_684 : decode cL_law 684 = .ok (.iload_n 3, 1) := by decide +kernel
theorem dL_law_685 : decode cL_law 685 = .ok (.iconst 2, 1) := by decide +kernel
theorem dL_law_686 : decode cL_law 686 = .ok (.iadd, 1) := by decide +kernel
theorem dL_law_687 : decode cL_law 687 = .ok (.iaload, 1) := by decide +kernel
theorem dL_law_688 : decode cL_law 688 = .ok (.invokevirtual 101, 3) := by decide +kernel
theorem dL_law_691 : decode cL_law 691 = .ok (.aload_n 2, 1) := by decide +kernel
theorem dL_law_692 : decode cL_law 692 = .ok (.aload_n 0, 1) := by decide +kernel
theorem dL_law_693 : decode cL_law 693 = .ok (.iload_n 3, 1) := by decide +kernel
theorem dL_law_694 : decode cL_law 694 = .ok (.iconst 1, 1) := by decide +kernel
theorem dL_law_695 : decode cL_law 695 = .ok (.iadd, 1) := by decide +kernel
theorem dL_law_696 : decode cL_law 696 = .ok (.iaload, 1) := by decide +kernel
theorem dL_law_697 : decode cL_law 697 = .ok (.aload_n 0, 1) := by decide +kernel
theorem dL_law_698 : decode cL_law 698 = .ok (.iload_n 3, 1) := by decide +kernel
theorem dL_law_699 : decode cL_law 699 = .ok (.iconst 2, 1) := by decide +kernel
theorem dL_law_700 : decode cL_law 700 = .ok (.iadd, 1) := by decide +kernel
theorem dL_law_701 : decode cL_law 701 = .ok (.iaload, 1) := by decide +kernel
theorem dL_law_702 : decode cL_law 702 = .ok (.invokevirtual 104, 3) := by decide +kernel
theorem dL_law_705 : decode cL_law 705 = .ok (.if_icmp .eq 41, 3) := by decide +kernel
theorem dL_law_708 : decode cL_law 708 = .ok (.iconst 0, 1) := by decide +kernel
theorem dL_law_709 : decode cL_law 709 = .ok (.ireturn, 1) := by decide +kernel
theorem dL_law_710 : decode cL_law 710 = .ok (.aload_n 1, 1) := by decide +kernel
theorem dL_law_711 : decode cL_law 711 = .ok (.invokevirtual 105, 3) := by decide +kernel
theorem dL_law_714 : decode cL_law 714 = .ok (.aload_n 2, 1) := by decide +kernel
theorem dL_law_715 : decode cL_law 715 = .ok (.invokevirtual 108, 3) := by decide +kernel
theorem dL_law_718 : decode cL_law 718 = .ok (.if_icmp .eq 28, 3) := by decide +kernel
theorem dL_law_721 : decode cL_law 721 = .ok (.iconst 0, 1) := by decide +kernel
theorem dL_law_722 : decode cL_law 722 = .ok (.ireturn, 1) := by decide +kernel
theorem dL_law_723 : decode cL_law 723 = .ok (.aload_n 1, 1) := by decide +kernel
theorem dL_law_724 : decode cL_law 724 = .ok (.aload_n 0, 1) := by decide +kernel
theorem dL_law_725 : decode cL_law 725 = .ok (.iload_n 3, 1) := by decide +kernel
theorem dL_law_726 : decode cL_law 726 = .ok (.iconst 1, 1) := by decide +kernel
theorem dL_law_727 : decode cL_law 727 = .ok (.iadd, 1) := by decide +kernel
theorem dL_law_728 : decode cL_law 728 = .ok (.iaload, 1) := by decide +kernel
theorem dL_law_729 : decode cL_law 729 = .ok (.invokevirtual 109, 3) := by decide +kernel
theorem dL_law_732 : decode cL_law 732 = .ok (.aload_n 2, 1) := by decide +kernel
theorem dL_law_733 : decode cL_law 733 = .ok (.aload_n 0, 1) := by decide +kernel
theorem dL_law_734 : decode cL_law 734 = .ok (.iload_n 3, 1) := by decide +kernel
theorem dL_law_735 : decode cL_law 735 = .ok (.iconst 1, 1) := by decide +kernel
theorem dL_law_736 : decode cL_law 736 = .ok (.iadd, 1) := by decide +kernel
theorem dL_law_737 : decode cL_law 737 = .ok (.iaload, 1) := by decide +kernel
theorem dL_law_738 : decode cL_law 738 = .ok (.invokevirtual 112, 3) := by decide +kernel
theorem dL_law_741 : decode cL_law 741 = .ok (.if_icmp .eq 5, 3) := by decide +kernel
theorem dL_law_744 : decode cL_law 744 = .ok (.iconst 0, 1) := by decide +kernel
theorem dL_law_745 : decode cL_law 745 = .ok (.ireturn, 1) := by decide +kernel
theorem dL_law_746 : decode cL_law 746 = .ok (.iinc 3 4, 3) := by decide +kernel
theorem dL_law_749 : decode cL_law 749 = .ok (.goto (-731), 3) := by decide +kernel
theorem dL_law_752 : decode cL_law 752 = .ok (.iconst 1, 1) := by decide +kernel
theorem dL_law_753 : decode cL_law 753 = .ok (.ireturn, 1) := by decide +kernel
end
section
abbrev mj_V : Type := Int32 ⊕ Option Nat
abbrev mj_F : Type := Nat → Nat → Option Nat
abbrev mj_I : Type := Nat → Nat → Int32
abbrev mj_M : Type := Nat × mj_F × mj_I
abbrev mj_E : Type := va_G × (Nat → ClassId) × Nat × (Nat → Nat)
def mj_ad (E : mj_E) (o : Nat) : Nat := if o < 1000 then E.2.2.1 + o else E.2.2.2 (o - 1000)
def mj_cv (E : mj_E) (v : mj_V) : Value := match v with
  | .inl x => .int x
  | .inr r => va_rf (r.map (mj_ad E))
theorem mj_cvi (E : mj_E) (x : Int32) : mj_cv E (.inl x) = .int x := rfl
theorem mj_cvr (E : mj_E) (o : Nat) : mj_cv E (.inr (some o)) = .ref (mj_ad E o) := rfl
theorem mj_cvn (E : mj_E) : mj_cv E (.inr none) = .null := rfl
theorem mj_cat (E : mj_E) (v : mj_V) : (mj_cv E v).category = 1 := by
  rcases v with x | _ | o <;> rfl
/-- the shapes of the cells, by place: kind (0 to 10 an object of vwCl, 11 int row, 12 boolean row, 13 to 15 rows of views, books, states), size -/
def mj_shB : List (Nat × Nat) := (0, 12) :: (2, 3) :: (11, 200) :: (11, 200) :: (13, 8) :: (11, 6) :: (11, 8) :: List.replicate 8 (8, 11)
def mj_shS : List (Nat × Nat) := (5, 3) :: (mj_shB ++ ((14, 2) :: (12, 2) :: (mj_shB ++ mj_shB)))
def mj_shl : List (Nat × Nat) := List.flatten [[(9, 5), (3, 8), (7, 2), (11, 40)], mj_shS, [(1, 3), (15, 5)], mj_shS, mj_shS, mj_shS, mj_shS, mj_shS, [(4, 2), (6, 1), (11, 24), (11, 8)], mj_shB, [(10, 18), (11, 2063), (11, 10315), (11, 40), (11, 24), (11, 8), (11, 8), (11, 8)]]
def mj_sh (o : Nat) : Nat × Nat := mj_shl.getD o (99, 0)
/-- the references that stand once all is made -/
def mj_rc (t o k : Nat) : Option Nat := match t with
  | 0 => match k with
    | 0 => some (o + 1)
    | 1 => some (o + 4)
    | 2 => some (o + 5)
    | _ => some (o + 6)
  | 1 => some (o + 1)
  | 2 => match k with
    | 0 => some (o + 1)
    | _ => some (o + 2)
  | 3 => some (o + 1)
  | 4 => match k with
    | 0 => some (o + 1)
    | _ => some (o + 3)
  | 5 => match k with
    | 0 => some (o + 1)
    | 1 => some (o + 16)
    | _ => some (o + 17)
  | 6 => some (o + 1)
  | 7 => some (o + 1)
  | 9 => match k with
    | 0 => some (o + 1)
    | 1 => some (o + 4)
    | 2 => some (o + 52)
    | 3 => some (o + 294)
    | _ => some (o + 298)
  | 10 => match k with
    | 0 => some (o + 1)
    | 1 => some (o + 2)
    | 3 => some (o + 3)
    | 5 => some (o + 4)
    | 6 => some (o + 5)
    | 7 => some (o + 6)
    | _ => some (o + 7)
  | 13 => some (o + 3 + k)
  | 14 => some (o + 2 + 15 * k)
  | _ => some (o + 1 + 48 * k)
def mj_RC : mj_F := fun o k => mj_rc (mj_sh o).1 o k
/-- which fields hold references -/
def mj_rk (t k : Nat) : Bool := match t with
  | 0 => decide (k < 4)
  | 1 => decide (k < 1)
  | 2 => decide (k < 2)
  | 3 => decide (k < 1)
  | 4 => true
  | 5 => true
  | 6 => true
  | 7 => decide (k < 1)
  | 9 => true
  | 10 => decide (k < 2) || decide (k = 3) || decide (k = 5) || decide (k = 6) || decide (k = 7) || decide (k = 8)
  | _ => false
def mj_fv (E : mj_E) (f : Nat → Option Nat) (g : Nat → Int32) (t k : Nat) : Value := if mj_rk t k = true then va_rf ((f k).map (mj_ad E)) else .int (g k)
def mj_ce (E : mj_E) (M : mj_M) (o : Nat) : va_E :=
  if (mj_sh o).1 < 11 then .inr ((mj_sh o).1, (List.range (mj_sh o).2).map (mj_fv E (M.2.1 o) (M.2.2 o) (mj_sh o).1))
  else if (mj_sh o).1 < 13 then .inl (E.2.1 ((mj_sh o).1 - 11), (mj_sh o).2, .inl (M.2.2 o))
  else .inl (E.2.1 ((mj_sh o).1 - 11), (mj_sh o).2, .inr (.inr (.inr (.inr (fun j => (M.2.1 o j).map (mj_ad E))))))
def mj_ws (E : mj_E) (M : mj_M) : va_W := (List.range M.1).map (fun o => (E.2.2.1 + o, mj_ce E M o))
def mj_ty (E : mj_E) : List (ClassId × FieldType) := [(E.2.1 0, .int), (E.2.1 1, .boolean), (E.2.1 2, .object "DebtorViews$View"), (E.2.1 3, .object "DebtorViews$Books"), (E.2.1 4, .object "DebtorViews$State")]
def mj_A (E : mj_E) : Nat → Prop := fun q => E.2.2.1 ≤ q
def mj_H (E : mj_E) (M : mj_M) (H : Heap) : Prop := va_P E.1 vwCl (mj_ws E M) H ∧ H.size = E.2.2.1 + M.1 ∧ M.1 ≤ 1000
def mj_K (E : mj_E) (U : State) : Prop := va_K E.1 vwCl (mj_ty E) U ∧ va_AO "DebtorViews$View" U ∧ va_AO "DebtorViews$Books" U ∧ va_AO "DebtorViews$State" U
theorem mj_K.moved {E : mj_E} {u U : State} (hvm : u.vm.Alike U.vm) (h : mj_K E u) : mj_K E U := ⟨h.1.moved hvm, h.2.1.moved hvm, h.2.2.1.moved hvm, h.2.2.2.moved hvm⟩
/-- what stands outside: the three static rows, the eight texts -/
def mj_xn (k : Nat) : String := match k with
  | 0 => "LEAST_SETTING"
  | 1 => "MOST_SETTING"
  | _ => "FIRST_SETTING"
def mj_xc (k j : Nat) : Int32 := match k with
  | 0 => [0, 1, 0, 0, 0, 0].getD j 0
  | 1 => [20, 20, 500, 100, 1, 2].getD j 0
  | _ => [1, 2, 30, 5, 0, 0].getD j 0
def mj_si (i : Nat) : Nat := [99, 101, 103, 105, 107, 67, 69, 82].getD i 0
def mj_st (i : Nat) : String := ["sum", "count", "most", "join", "less", "a", "b", "-"].getD i ""
def mj_sn : List Nat := [3, 5, 4, 4, 4, 1, 1, 1]
def mj_sb : List (List Int32) := [[115, 117, 109], [99, 111, 117, 110, 116], [109, 111, 115, 116], [106, 111, 105, 110], [108, 101, 115, 115], [97], [98], [45]]
def mj_nest : List Cond := [
  Cond.fieldLinkNest "DebtorViews$Reader" 84 "DebtorViews$Text" "length" "I" "DebtorViews",
  Cond.fieldLinkNest "DebtorViews" 201 "DebtorViews$Text" "length" "I" "DebtorViews",
  Cond.fieldLinkNest "DebtorViews" 100 "DebtorViews$Reader" "text" "LDebtorViews$Text;" "DebtorViews",
  Cond.fieldLinkNest "DebtorViews" 80 "DebtorViews$Reader" "fault" "I" "DebtorViews",
  Cond.fieldLinkNest "DebtorViews" 84 "DebtorViews$Reader" "kind" "I" "DebtorViews",
  Cond.fieldLinkNest "DebtorViews" 109 "DebtorViews$Reader" "table" "I" "DebtorViews",
  Cond.fieldLinkNest "DebtorViews" 87 "DebtorViews$Reader" "first" "I" "DebtorViews",
  Cond.fieldLinkNest "DebtorViews" 90 "DebtorViews$Reader" "last" "I" "DebtorViews",
  Cond.fieldLinkNest "DebtorViews$Replay" 58 "DebtorViews$Log" "end" "I" "DebtorViews",
  Cond.fieldLinkNest "DebtorViews$Books" 67 "DebtorViews$Log" "end" "I" "DebtorViews",
  Cond.fieldLinkNest "DebtorViews" 183 "DebtorViews$Log" "end" "I" "DebtorViews",
  Cond.fieldLinkNest "DebtorViews$Books" 35 "DebtorViews$View" "exists" "Z" "DebtorViews",
  Cond.fieldLinkNest "DebtorViews" 125 "DebtorViews$View" "exists" "Z" "DebtorViews",
  Cond.fieldLinkNest "DebtorViews$Replay" 66 "DebtorViews$View" "kind" "I" "DebtorViews",
  Cond.fieldLinkNest "DebtorViews" 241 "DebtorViews$View" "kind" "I" "DebtorViews",
  Cond.fieldLinkNest "DebtorViews" 245 "DebtorViews$View" "table" "I" "DebtorViews",
  Cond.fieldLinkNest "DebtorViews$Replay" 90 "DebtorViews$View" "first" "I" "DebtorViews",
  Cond.fieldLinkNest "DebtorViews" 246 "DebtorViews$View" "first" "I" "DebtorViews",
  Cond.fieldLinkNest "DebtorViews$Replay" 93 "DebtorViews$View" "last" "I" "DebtorViews",
  Cond.fieldLinkNest "DebtorViews" 247 "DebtorViews$View" "last" "I" "DebtorViews",
  Cond.fieldLinkNest "DebtorViews$Books" 74 "DebtorViews$View" "cells" "I" "DebtorViews",
  Cond.fieldLinkNest "DebtorViews$Books" 77 "DebtorViews$View" "keys" "I" "DebtorViews",
  Cond.fieldLinkNest "DebtorViews" 161 "DebtorViews$View" "bankrupt" "Z" "DebtorViews",
  Cond.fieldLinkNest "DebtorViews$Books" 88 "DebtorViews$View" "bankrupt" "Z" "DebtorViews",
  Cond.fieldLinkNest "DebtorViews$Books" 101 "DebtorViews$View" "place" "I" "DebtorViews",
  Cond.fieldLinkNest "DebtorViews" 248 "DebtorViews$View" "place" "I" "DebtorViews",
  Cond.fieldLinkNest "DebtorViews$Books" 115 "DebtorViews$View" "debt" "I" "DebtorViews",
  Cond.fieldLinkNest "DebtorViews" 254 "DebtorViews$View" "debt" "I" "DebtorViews",
  Cond.fieldLinkNest "DebtorViews" 260 "DebtorViews$View" "spent" "I" "DebtorViews",
  Cond.fieldLinkNest "DebtorViews$Books" 142 "DebtorViews$View" "spent" "I" "DebtorViews",
  Cond.fieldLinkNest "DebtorViews$Books" 32 "DebtorViews" "FIRST_SETTING" "[I" "DebtorViews",
  Cond.fieldLinkNest "DebtorViews$Replay" 25 "DebtorViews$Books" "log" "LDebtorViews$Log;" "DebtorViews",
  Cond.fieldLinkNest "DebtorViews" 52 "DebtorViews$Books" "log" "LDebtorViews$Log;" "DebtorViews",
  Cond.fieldLinkNest "DebtorViews" 97 "DebtorViews$Books" "defined" "I" "DebtorViews",
  Cond.fieldLinkNest "DebtorViews" 150 "DebtorViews$Books" "treasury" "I" "DebtorViews",
  Cond.fieldLinkNest "DebtorViews" 204 "DebtorViews$Books" "received" "I" "DebtorViews",
  Cond.fieldLinkNest "DebtorViews" 207 "DebtorViews$Books" "spentOnDebts" "I" "DebtorViews",
  Cond.fieldLinkNest "DebtorViews" 210 "DebtorViews$Books" "spentOnArrears" "I" "DebtorViews",
  Cond.fieldLinkNest "DebtorViews" 213 "DebtorViews$Books" "spentOnFounding" "I" "DebtorViews",
  Cond.fieldLinkNest "DebtorViews" 216 "DebtorViews$Books" "writtenOff" "I" "DebtorViews",
  Cond.fieldLinkNest "DebtorViews" 222 "DebtorViews$Books" "ticks" "I" "DebtorViews",
  Cond.fieldLinkNest "DebtorViews" 49 "DebtorViews$State" "books" "LDebtorViews$Books;" "DebtorViews",
  Cond.fieldLinkNest "DebtorViews" 192 "DebtorViews$History" "size" "I" "DebtorViews",
  Cond.methodLinkNest "DebtorViews" 11 yX3_init "DebtorViews",
  Cond.methodLinkNest "DebtorViews$Reader" 11 yX7_init "DebtorViews",
  Cond.methodLinkNest "DebtorViews$Books" 11 yX2_init "DebtorViews",
  Cond.methodLinkNest "DebtorViews$Books" 31 yX8_init "DebtorViews",
  Cond.methodLinkNest "DebtorViews" 32 yX4_init "DebtorViews",
  Cond.methodLinkNest "DebtorViews$Replay" 11 yX6_init "DebtorViews",
  Cond.methodLinkNest "DebtorViews$View" 47 yX9_cellOf "DebtorViews",
  Cond.methodLinkNest "DebtorViews$View" 57 yX9_amount "DebtorViews",
  Cond.methodLinkNest "DebtorViews$View" 60 yX9_presence "DebtorViews"]
def mj_isN (w : Cond) : Bool := match w with
  | .fieldLinkNest _ _ _ _ _ _ => true
  | .methodLinkNest _ _ _ _ => true
  | _ => false
theorem mj_nestN : mj_nest.all mj_isN = true := by decide +kernel
theorem mj_nw {w : Cond} (hw : mj_isN w = true) {s U : State} (hW : s.WarmedH U.vm) (h : va_Nw w s) : va_Nw w U := by
  unfold mj_isN at hw
  split at hw
  · exact h.warmF hW
  · exact h.warmM hW
  · cases hw
theorem mj_nt {w : Cond} (hw : mj_isN w = true) : w.onTables = true := by
  unfold mj_isN at hw
  split at hw
  · rfl
  · rfl
  · cases hw
def mj_X (E : mj_E) (U : State) (H : Heap) : Prop :=
  (∀ k, k < 3 → va_Z "DebtorViews" (mj_xn k) "[I" (.ref (E.2.2.2 k)) (mj_A E) U H ∧ va_T .int (E.2.2.2 k) 6 (fun j => .int (mj_xc k j)) (mj_A E) U H) ∧
  vk_S 8 mj_sn mj_sb (fun i => E.2.2.2 (10 + i)) (fun i => E.2.2.2 (30 + i)) (mj_A E) U H ∧ (∀ i, i < 8 → vk_R "DebtorViews$Reader" (mj_si i) (mj_st i) (E.2.2.2 (10 + i)) U) ∧
  va_Z "java/lang/String" "COMPACT_STRINGS" "Z" (.int 1) (mj_A E) U H ∧ ∀ w ∈ mj_nest, va_Nw w U
theorem mj_X.moved {E : mj_E} {u U : State} {H : Heap} (hW : u.WarmedH U.vm) (h : mj_X E u H) : mj_X E U H :=
  ⟨fun k hk => ⟨va_Z.moved hW.alike (h.1 k hk).1, va_T.moved hW.alike (h.1 k hk).2⟩, h.2.1.moved hW.alike, fun i hi => (h.2.2.1 i hi).warm hW, h.2.2.2.1.moved hW.alike, fun w hw => mj_nw (List.all_eq_true.mp mj_nestN w hw) hW (h.2.2.2.2 w hw)⟩
theorem mj_X.same {E : mj_E} {u U : State} {H : Heap} (hv : U.vm = u.vm) (h : mj_X E u H) : mj_X E U H :=
  have hA : u.vm.Alike U.vm := by rw [hv]; exact Vm.Alike.refl _
  ⟨fun k hk => ⟨va_Z.moved hA (h.1 k hk).1, va_T.moved hA (h.1 k hk).2⟩, h.2.1.moved hA, fun i hi => (h.2.2.1 i hi).same hv, h.2.2.2.1.moved hA, fun w hw => va_Nw.same (mj_nt (List.all_eq_true.mp mj_nestN w hw)) hv.symm (h.2.2.2.2 w hw)⟩
theorem mj_X.kept {E : mj_E} {U : State} {H H1 : Heap} (h : mj_X E U H) (hq : ∀ a : Nat, a < H.size → ¬ mj_A E a → H1[a]? = H[a]?) : mj_X E U H1 :=
  ⟨fun k hk => ⟨(h.1 k hk).1.kept hq, (h.1 k hk).2.kept hq⟩, h.2.1.kept hq, h.2.2.1, h.2.2.2.1.kept hq, h.2.2.2.2⟩
/-- the world: cells, tables, what stands outside -/
def mj_W (E : mj_E) (M : mj_M) (U : State) : Prop := mj_H E M U.heap ∧ mj_K E U ∧ mj_X E U U.heap
abbrev mj_D : Type := MethodName × ByteArray × Nat × Option FieldType × Nat × Nat × Nat × Nat
def mj_rm (d : mj_D) : Room := { frames := d.2.2.2.2.1, cells := d.2.2.2.2.2.2.1, slots := d.2.2.2.2.2.2.2, locals := d.2.2.2.2.2.1 }
abbrev mj_y (d : mj_D) : MethodName := d.1
abbrev mj_cc (d : mj_D) : ByteArray := d.2.1
abbrev mj_nl (d : mj_D) : Nat := d.2.2.1
abbrev mj_rt (d : mj_D) : Option FieldType := d.2.2.2.1
abbrev mj_fr (d : mj_D) : Nat := d.2.2.2.2.1
abbrev mj_lo (d : mj_D) : Nat := d.2.2.2.2.2.1
abbrev mj_mc (d : mj_D) : Nat := d.2.2.2.2.2.2.1
abbrev mj_ms (d : mj_D) : Nat := d.2.2.2.2.2.2.2
def mj_Q (E : mj_E) (post : Option mj_V → mj_M → Prop) : Array Value → State → Outcome → State → Prop := fun _ st oc t =>
  (∃ (r : Option mj_V) (M : mj_M), oc = .returned (r.map (mj_cv E)) ∧ post r M ∧ mj_H E M t.heap) ∧ va_F (mj_A E) st t
/-- a method's run: from the memory M with these arguments it returns, and post holds of its answer and the memory then -/
def mj_R (d : mj_D) (as : List mj_V) (M : mj_M) (post : Option mj_V → mj_M → Prop) : Prop :=
  ∀ (l : Launch) (E : mj_E), Met l (mj_y d) (.code (mj_y d) (mj_cc d) (mj_nl d) (mj_rt d) :: wsL_law) (mj_rm d) (va_Pc (as.map (mj_cv E)) (mj_W E M)) (mj_Q E post) (mj_mc d) (mj_ms d) (mj_A E)
abbrev mj_P : Type := List (Option mj_V) → List mj_V → mj_M → Nat × Nat → Prop
abbrev mj_O : Type := Nat → List (Option mj_V) → List mj_V → mj_M → Nat × Nat → (Nat → mj_P) → (Option mj_V → mj_M → Nat × Nat → Prop) → Prop
def mj_L (E : mj_E) (nL : Nat) (L : List (Option mj_V)) (ls : Array Slot) : Prop := L.length = nL ∧ ls.size = nL ∧ lv_wf ls ∧ ∀ (i : Nat) (v : mj_V), L[i]? = some (some v) → ls[i]? = some (.val (mj_cv E v))
section MJ
variable {p : Program} {l : Launch} {e : Env} {s : State} {m : MethodId} {args : Array Value} {below : List Frame} {meth : Method} {c : Code} {E : mj_E} {d : mj_D} {post : Option mj_V → mj_M → Prop}
/-- where a walk of method d stands -/
def mj_C (p : Program) (l : Launch) (e : Env) (s : State) (m : MethodId) (args : Array Value) (below : List Frame) (meth : Method) (c : Code) (E : mj_E) (d : mj_D) : Prop :=
  p.tables.exec = Jvm.exec ∧ c.code = mj_cc d ∧ c.maxLocals = mj_nl d ∧ s.vm.findClass (mj_y d).cls = some m.cls ∧ (∀ w ∈ wsL_law, w.before args s = true) ∧ meth.sig.returnType = mj_rt d ∧ meth.locks = false ∧ meth.name = (mj_y d).name ∧ mj_K E s ∧ mj_X E s s.heap ∧ E.2.2.1 ≤ s.heap.size
def mj_G (p : Program) (l : Launch) (e : Env) (s : State) (m : MethodId) (args : Array Value) (below : List Frame) (meth : Method) (c : Code) (E : mj_E) (d : mj_D) (post : Option mj_V → mj_M → Prop) (pc : Nat) (L : List (Option mj_V)) (st : List mj_V) (M : mj_M) (z : Nat × Nat) : Prop :=
  z.1 ≤ mj_mc d → z.2 ≤ mj_ms d → ∀ (H : Heap) (locs : List Loc) (ls : Array Slot), mj_H E M H → va_S (mj_A E) s.heap H locs → mj_L E (mj_nl d) L ls →
    W p l e (mj_rm d) s m args below meth c H locs z.1 z.2 (MQ below (mj_Q E post) args s (mj_mc d) (mj_ms d) (mj_A E)) (F0 m pc ls (st.map (mj_cv E)))
/-- what is owed at a return -/
def mj_Z (d : mj_D) (post : Option mj_V → mj_M → Prop) : Option mj_V → mj_M → Nat × Nat → Prop := fun v M _ => post v M
/-- an operation is sound at a place of method d -/
def mj_S (d : mj_D) (pc : Nat) (op : mj_O) : Prop :=
  ∀ (p : Program) (l : Launch) (e : Env) (s : State) (m : MethodId) (args : Array Value) (below : List Frame) (meth : Method) (c : Code) (E : mj_E) (post : Option mj_V → mj_M → Prop), mj_C p l e s m args below meth c E d →
  ∀ (L : List (Option mj_V)) (st : List mj_V) (M : mj_M) (z : Nat × Nat) (K : Nat → mj_P), op pc L st M z K (mj_Z d post) →
    (∀ pc' L' st' M' z', K pc' L' st' M' z' → mj_G p l e s m args below meth c E d post pc' L' st' M' z') → mj_G p l e s m args below meth c E d post pc L st M z
def mj_bk (T : Nat → mj_O) (stop : Nat → Bool) : Nat → mj_O
  | 0 => fun pc L st M z K _ => K pc L st M z
  | n + 1 => fun pc L st M z K P => T pc pc L st M z (fun pc' L' st' M' z' => match stop pc' with
    | true => K pc' L' st' M' z'
    | false => mj_bk T stop n pc' L' st' M' z' K P) P
/-- a rule: what is shown by the text of the operations holds of the machine; K is what is known at the stops -/
theorem mj_bk_sound {T : Nat → mj_O} (hT : ∀ pc, mj_S d pc (T pc)) (stop : Nat → Bool) (hC : mj_C p l e s m args below meth c E d) {K : Nat → mj_P} (hK : ∀ pc' L' st' M' z', K pc' L' st' M' z' → mj_G p l e s m args below meth c E d post pc' L' st' M' z') :
    ∀ (n pc : Nat) (L : List (Option mj_V)) (st : List mj_V) (M : mj_M) (z : Nat × Nat), (T pc = T pc → mj_bk T stop n pc L st M z K (mj_Z d post) → mj_G p l e s m args below meth c E d post pc L st M z) := by
  intro n
  induction n with
  | zero => exact fun pc L st M z _ h => hK _ _ _ _ _ h
  | succ n ih =>
    intro pc L st M z _ h
    refine hT pc p l e s m args below meth c E post hC L st M z _ h ?_
    intro pc' L' st' M' z' h'
    revert h'
    cases stop pc' with
    | true => exact fun h' => hK _ _ _ _ _ h'
    | false => exact fun h' => ih _ _ _ _ _ rfl h'
end MJ
end
section
def mj_lg : List (Option mj_V) → Nat → Option mj_V
  | [], _ => none
  | a :: _, 0 => a
  | _ :: t, i + 1 => mj_lg t i
def mj_ls : List (Option mj_V) → Nat → mj_V → List (Option mj_V)
  | [], _, _ => []
  | _ :: t, 0, v => some v :: t
  | a :: t, i + 1, v => a :: mj_ls t i v
theorem mj_lg_get : ∀ (L : List (Option mj_V)) (i : Nat) (v : mj_V), mj_lg L i = some v → L[i]? = some (some v)
  | [], i, v, h => by cases i <;> cases h
  | a :: t, 0, v, h => by
    simp only [mj_lg] at h
    rw [h]; rfl
  | a :: t, i + 1, v, h => by
    rw [List.getElem?_cons_succ]
    exact mj_lg_get t i v h
theorem mj_ls_len : ∀ (L : List (Option mj_V)) (i : Nat) (v : mj_V), (mj_ls L i v).length = L.length
  | [], _, _ => rfl
  | _ :: _, 0, _ => rfl
  | _ :: t, i + 1, v => congrArg (· + 1) (mj_ls_len t i v)
theorem mj_ls_get : ∀ (L : List (Option mj_V)) (i : Nat) (v : mj_V) (j : Nat) (w : mj_V), (mj_ls L i v)[j]? = some (some w) → (j = i ∧ w = v) ∨ (j ≠ i ∧ L[j]? = some (some w))
  | [], i, v, j, w, h => by
    simp only [mj_ls] at h
    cases j <;> cases h
  | a :: t, 0, v, 0, w, h => by
    simp only [mj_ls, List.getElem?_cons_zero] at h
    cases h
    exact Or.inl ⟨rfl, rfl⟩
  | a :: t, 0, v, j + 1, w, h => by
    simp only [mj_ls, List.getElem?_cons_succ] at h
    exact Or.inr ⟨by omega, by rw [List.getElem?_cons_succ]; exact h⟩
  | a :: t, i + 1, v, 0, w, h => by
    simp only [mj_ls, List.getElem?_cons_zero] at h
    exact Or.inr ⟨by omega, by rw [List.getElem?_cons_zero]; exact h⟩
  | a :: t, i + 1, v, j + 1, w, h => by
    simp only [mj_ls, List.getElem?_cons_succ] at h
    rcases mj_ls_get t i v j w h with ⟨h1, h2⟩ | ⟨h1, h2⟩
    · exact Or.inl ⟨by omega, h2⟩
    · exact Or.inr ⟨by omega, by rw [List.getElem?_cons_succ]; exact h2⟩
def mj_lv (E : mj_E) (L : List (Option mj_V)) : List (Nat × Value) := (List.range L.length).filterMap (fun i => match L[i]? with
  | some (some v) => some (i, mj_cv E v)
  | _ => none)
theorem mj_L.has {E : mj_E} {nL : Nat} {L : List (Option mj_V)} {ls : Array Slot} (h : mj_L E nL L ls) : lv_has ls nL (mj_lv E L) := by
  refine ⟨h.2.1, h.2.2.1, fun q hq => ?_⟩
  obtain ⟨i, -, hi⟩ := List.mem_filterMap.mp hq
  revert hi
  cases hL : L[i]? with
  | none => intro hi; cases hi
  | some x =>
    cases x with
    | none => intro hi; cases hi
    | some v =>
      intro hi
      cases hi
      exact h.2.2.2 i v hL
theorem mj_L.at {E : mj_E} {nL i : Nat} {L : List (Option mj_V)} {ls : Array Slot} {v : mj_V} (h : mj_L E nL L ls) (hv : mj_lg L i = some v) : ls[i]? = some (.val (mj_cv E v)) := h.2.2.2 i v (mj_lg_get L i v hv)
theorem mj_L.put {E : mj_E} {nL i : Nat} {L : List (Option mj_V)} {ls ls' : Array Slot} {v : mj_V} (h : mj_L E nL L ls) (h' : lv_has ls' nL ((i, mj_cv E v) :: (mj_lv E L).filter (fun q => !(q.1 == i) && !(q.1 + 1 == i && q.2.category == 2)))) : mj_L E nL (mj_ls L i v) ls' := by
  refine ⟨(mj_ls_len L i v).trans h.1, h'.1, h'.2.1, fun j w hj => ?_⟩
  rcases mj_ls_get L i v j w hj with ⟨rfl, rfl⟩ | ⟨hne, hj⟩
  · exact h'.2.2 _ List.mem_cons_self
  · refine h'.2.2 (j, mj_cv E w) (List.mem_cons_of_mem _ (List.mem_filter.mpr ⟨List.mem_filterMap.mpr ⟨j, List.mem_range.mpr (List.getElem?_eq_some_iff.mp hj).1, ?_⟩, ?_⟩))
    · simp only [hj]
    · simp [hne, mj_cat]
/-! the operations -/
def oC (x : Int32) (n : Nat) : mj_O := fun pc L st M z K _ => K (pc + n) L (.inl x :: st) M z
def oNull : mj_O := fun pc L st M z K _ => K (pc + 1) L (.inr none :: st) M z
def oIld (i n : Nat) : mj_O := fun pc L st M z K _ => match mj_lg L i with
  | some (.inl x) => K (pc + n) L (.inl x :: st) M z
  | _ => False
def oAld (i n : Nat) : mj_O := fun pc L st M z K _ => match mj_lg L i with
  | some (.inr r) => K (pc + n) L (.inr r :: st) M z
  | _ => False
def oIst (i n : Nat) : mj_O := fun pc L st M z K _ => match st with
  | .inl x :: rest => K (pc + n) (mj_ls L i (.inl x)) rest M z
  | _ => False
def oAst (i n : Nat) : mj_O := fun pc L st M z K _ => match st with
  | .inr r :: rest => K (pc + n) (mj_ls L i (.inr r)) rest M z
  | _ => False
def oInc (i : Nat) (k : Int32) : mj_O := fun pc L st M z K _ => match mj_lg L i with
  | some (.inl x) => K (pc + 3) (mj_ls L i (.inl (x + k))) st M z
  | _ => False
def oBin (f : Int32 → Int32 → Int32) : mj_O := fun pc L st M z K _ => match st with
  | .inl y :: .inl x :: rest => K (pc + 1) L (.inl (f x y) :: rest) M z
  | _ => False
def oDiv (f : Int32 → Int32 → Int32) : mj_O := fun pc L st M z K _ => match st with
  | .inl y :: .inl x :: rest => (¬ y = 0) ∧ K (pc + 1) L (.inl (f x y) :: rest) M z
  | _ => False
def oUn (f : Int32 → Int32) : mj_O := fun pc L st M z K _ => match st with
  | .inl x :: rest => K (pc + 1) L (.inl (f x) :: rest) M z
  | _ => False
def oDup : mj_O := fun pc L st M z K _ => match st with
  | a :: rest => K (pc + 1) L (a :: a :: rest) M z
  | _ => False
def oPop : mj_O := fun pc L st M z K _ => match st with
  | _ :: rest => K (pc + 1) L rest M z
  | _ => False
def oDup2 : mj_O := fun pc L st M z K _ => match st with
  | a :: b :: rest => K (pc + 1) L (a :: b :: a :: b :: rest) M z
  | _ => False
def oIf (P Q : Int32 → Prop) (t : Nat) : mj_O := fun pc L st M z K _ => match st with
  | .inl x :: rest => (P x → K t L rest M z) ∧ (Q x → K (pc + 3) L rest M z)
  | _ => False
def oCmp (P Q : Int32 → Int32 → Prop) (t : Nat) : mj_O := fun pc L st M z K _ => match st with
  | .inl y :: .inl x :: rest => (P x y → K t L rest M z) ∧ (Q x y → K (pc + 3) L rest M z)
  | _ => False
def oIfNull (t : Nat) : mj_O := fun pc L st M z K _ => match st with
  | .inr r :: rest => match r with
    | none => K t L rest M z
    | some _ => K (pc + 3) L rest M z
  | _ => False
def oIfNN (t : Nat) : mj_O := fun pc L st M z K _ => match st with
  | .inr r :: rest => match r with
    | none => K (pc + 3) L rest M z
    | some _ => K t L rest M z
  | _ => False
def oGoto (t : Nat) : mj_O := fun _ L st M z K _ => K t L st M z
def mj_sw (x : Int32) (k : Nat → Prop) (df : Nat) : List (Int32 × Nat) → Prop
  | [] => k df
  | q :: r => (x = q.1 → k q.2) ∧ (¬ x = q.1 → mj_sw x k df r)
def oSw (cs : List (Int32 × Nat)) (df : Nat) : mj_O := fun _ L st M z K _ => match st with
  | .inl x :: rest => mj_sw x (fun t => K t L rest M z) df cs
  | _ => False
def oRetI : mj_O := fun _ _ st M z _ P => match st with
  | [.inl x] => P (some (.inl x)) M z
  | _ => False
def oRetZ : mj_O := fun _ _ st M z _ P => match st with
  | [.inl x] => (x = 0 ∨ x = 1) ∧ P (some (.inl x)) M z
  | _ => False
def oRetV : mj_O := fun _ _ st M z _ P => match st with
  | [] => P none M z
  | _ => False
def oRetA : mj_O := fun _ _ st M z _ P => match st with
  | [.inr r] => P (some (.inr r)) M z
  | _ => False
def oStuck : mj_O := fun _ _ _ _ _ _ _ => False
section MJO
variable {d : mj_D} {pc : Nat}
theorem sStuck : mj_S d pc oStuck := fun _ _ _ _ _ _ _ _ _ _ _ _ _ _ _ _ _ h => h.elim
theorem sC_iconst {n : Int} {v : Int32} (hdg : decode (mj_cc d) pc = .ok (.iconst n, 1)) (hv : Int32.ofInt n = v) : mj_S d pc (oC v 1) := by
  intro p l e s m args below meth c E post hC L st M z K h hK h1 h2 H locs ls hH hS hL
  exact lv_iconst hC.1 hC.2.1 hdg hv (hK _ _ _ _ _ h h1 h2 H locs ls hH hS hL)
theorem sC_bipush {n : Int} {v : Int32} (hdg : decode (mj_cc d) pc = .ok (.bipush n, 2)) (hv : (Int8.ofInt n).toInt32 = v) : mj_S d pc (oC v 2) := by
  intro p l e s m args below meth c E post hC L st M z K h hK h1 h2 H locs ls hH hS hL
  exact lv_bipush hC.1 hC.2.1 hdg hv (hK _ _ _ _ _ h h1 h2 H locs ls hH hS hL)
theorem sC_sipush {n : Int} {v : Int32} (hdg : decode (mj_cc d) pc = .ok (.sipush n, 3)) (hv : (Int16.ofInt n).toInt32 = v) : mj_S d pc (oC v 3) := by
  intro p l e s m args below meth c E post hC L st M z K h hK h1 h2 H locs ls hH hS hL
  exact lv_sipush hC.1 hC.2.1 hdg hv (hK _ _ _ _ _ h h1 h2 H locs ls hH hS hL)
theorem sC_ldc {k : Nat} {v : Int32} (hdg : decode (mj_cc d) pc = .ok (.ldc k, 2)) (hw : Cond.constant (mj_y d).cls k v ∈ wsL_law) : mj_S d pc (oC v 2) := by
  intro p l e s m args below meth c E post hC L st M z K h hK h1 h2 H locs ls hH hS hL
  exact lv_ldc hC.1 hC.2.1 hC.2.2.2.1 (hC.2.2.2.2.1 _ hw) hdg (hK _ _ _ _ _ h h1 h2 H locs ls hH hS hL)
theorem sC_ldcw {k : Nat} {v : Int32} (hdg : decode (mj_cc d) pc = .ok (.ldc_w k, 3)) (hw : Cond.constant (mj_y d).cls k v ∈ wsL_law) : mj_S d pc (oC v 3) := by
  intro p l e s m args below meth c E post hC L st M z K h hK h1 h2 H locs ls hH hS hL
  exact lv_ldcw hC.1 hC.2.1 hC.2.2.2.1 (hC.2.2.2.2.1 _ hw) hdg (hK _ _ _ _ _ h h1 h2 H locs ls hH hS hL)
theorem sNull (hdg : decode (mj_cc d) pc = .ok (.aconst_null, 1)) : mj_S d pc oNull := by
  intro p l e s m args below meth c E post hC L st M z K h hK h1 h2 H locs ls hH hS hL
  exact lv_null hC.1 hC.2.1 hdg (hK _ _ _ _ _ h h1 h2 H locs ls hH hS hL)
theorem sIld_n {k : Fin 4} {i : Nat} (hdg : decode (mj_cc d) pc = .ok (.iload_n k, 1)) (hi : (k : Nat) = i) : mj_S d pc (oIld i 1) := by
  intro p l e s m args below meth c E post hC L st M z K h hK h1 h2 H locs ls hH hS hL
  unfold oIld at h
  split at h
  · rename_i x hx
    exact lv_iload_n hC.1 hC.2.1 hdg hi (hL.at hx) (hK _ _ _ _ _ h h1 h2 H locs ls hH hS hL)
  · exact h.elim
theorem sIld {i : Nat} (hdg : decode (mj_cc d) pc = .ok (.iload i, 2)) : mj_S d pc (oIld i 2) := by
  intro p l e s m args below meth c E post hC L st M z K h hK h1 h2 H locs ls hH hS hL
  unfold oIld at h
  split at h
  · rename_i x hx
    exact lv_iload hC.1 hC.2.1 hdg (hL.at hx) (hK _ _ _ _ _ h h1 h2 H locs ls hH hS hL)
  · exact h.elim
theorem sAld_n {k : Fin 4} {i : Nat} (hdg : decode (mj_cc d) pc = .ok (.aload_n k, 1)) (hi : (k : Nat) = i) : mj_S d pc (oAld i 1) := by
  intro p l e s m args below meth c E post hC L st M z K h hK h1 h2 H locs ls hH hS hL
  unfold oAld at h
  split at h
  · rename_i r hx
    cases r with
    | none => exact lv_aload_nN hC.1 hC.2.1 hdg hi (hL.at hx) (hK _ _ _ _ _ h h1 h2 H locs ls hH hS hL)
    | some o => exact lv_aload_n hC.1 hC.2.1 hdg hi (hL.at hx) (hK _ _ _ _ _ h h1 h2 H locs ls hH hS hL)
  · exact h.elim
theorem sAld {i : Nat} (hdg : decode (mj_cc d) pc = .ok (.aload i, 2)) : mj_S d pc (oAld i 2) := by
  intro p l e s m args below meth c E post hC L st M z K h hK h1 h2 H locs ls hH hS hL
  unfold oAld at h
  split at h
  · rename_i r hx
    cases r with
    | none => exact lv_aloadN hC.1 hC.2.1 hdg (hL.at hx) (hK _ _ _ _ _ h h1 h2 H locs ls hH hS hL)
    | some o => exact lv_aload hC.1 hC.2.1 hdg (hL.at hx) (hK _ _ _ _ _ h h1 h2 H locs ls hH hS hL)
  · exact h.elim
theorem sIst_n {k : Fin 4} {i : Nat} (hdg : decode (mj_cc d) pc = .ok (.istore_n k, 1)) (hi : (k : Nat) = i) (hn : i < mj_nl d) : mj_S d pc (oIst i 1) := by
  intro p l e s m args below meth c E post hC L st M z K h hK h1 h2 H locs ls hH hS hL
  unfold oIst at h
  split at h
  · rename_i x rest
    exact lv_istore_n hC.1 hC.2.1 hdg hi hL.has hn rfl (fun ls' hl' => hK _ _ _ _ _ h h1 h2 H locs ls' hH hS (hL.put (v := .inl x) hl'))
  · exact h.elim
theorem sIst {i : Nat} (hdg : decode (mj_cc d) pc = .ok (.istore i, 2)) (hn : i < mj_nl d) : mj_S d pc (oIst i 2) := by
  intro p l e s m args below meth c E post hC L st M z K h hK h1 h2 H locs ls hH hS hL
  unfold oIst at h
  split at h
  · rename_i x rest
    exact lv_istore hC.1 hC.2.1 hdg hL.has hn rfl (fun ls' hl' => hK _ _ _ _ _ h h1 h2 H locs ls' hH hS (hL.put (v := .inl x) hl'))
  · exact h.elim
theorem sAst_n {k : Fin 4} {i : Nat} (hdg : decode (mj_cc d) pc = .ok (.astore_n k, 1)) (hi : (k : Nat) = i) (hn : i < mj_nl d) : mj_S d pc (oAst i 1) := by
  intro p l e s m args below meth c E post hC L st M z K h hK h1 h2 H locs ls hH hS hL
  unfold oAst at h
  split at h
  · rename_i r rest
    cases r with
    | none => exact lv_astore_nN hC.1 hC.2.1 hdg hi hL.has hn rfl (fun ls' hl' => hK _ _ _ _ _ h h1 h2 H locs ls' hH hS (hL.put (v := .inr none) hl'))
    | some o => exact lv_astore_n hC.1 hC.2.1 hdg hi hL.has hn rfl (fun ls' hl' => hK _ _ _ _ _ h h1 h2 H locs ls' hH hS (hL.put (v := .inr (some o)) hl'))
  · exact h.elim
theorem sAst {i : Nat} (hdg : decode (mj_cc d) pc = .ok (.astore i, 2)) (hn : i < mj_nl d) : mj_S d pc (oAst i 2) := by
  intro p l e s m args below meth c E post hC L st M z K h hK h1 h2 H locs ls hH hS hL
  unfold oAst at h
  split at h
  · rename_i r rest
    cases r with
    | none => exact lv_astoreN hC.1 hC.2.1 hdg hL.has hn rfl (fun ls' hl' => hK _ _ _ _ _ h h1 h2 H locs ls' hH hS (hL.put (v := .inr none) hl'))
    | some o => exact lv_astore hC.1 hC.2.1 hdg hL.has hn rfl (fun ls' hl' => hK _ _ _ _ _ h h1 h2 H locs ls' hH hS (hL.put (v := .inr (some o)) hl'))
  · exact h.elim
theorem mj_lv_idx {E : mj_E} {L : List (Option mj_V)} {i : Nat} {v : mj_V} (h : mj_lg L i = some v) : ∃ k : Nat, (mj_lv E L)[k]? = some (i, mj_cv E v) := by
  have h1 := mj_lg_get L i v h
  exact List.getElem?_of_mem (List.mem_filterMap.mpr ⟨i, List.mem_range.mpr (List.getElem?_eq_some_iff.mp h1).1, by simp only [h1]⟩)
theorem sInc {i : Nat} {n : Int} {k : Int32} (hdg : decode (mj_cc d) pc = .ok (.iinc i n, 3)) (hk : Int32.ofInt n = k) (hn : i < mj_nl d) : mj_S d pc (oInc i k) := by
  intro p l e s m args below meth c E post hC L st M z K h hK h1 h2 H locs ls hH hS hL
  unfold oInc at h
  split at h
  · rename_i x hx
    obtain ⟨q, hq⟩ := mj_lv_idx (E := E) hx
    exact lv_iinc hC.1 hC.2.1 hdg hL.has hq (by rw [hk]) hn rfl (fun ls' hl' => hK _ _ _ _ _ h h1 h2 H locs ls' hH hS (hL.put (v := .inl (x + k)) hl'))
  · exact h.elim
theorem sAdd (hdg : decode (mj_cc d) pc = .ok (.iadd, 1)) : mj_S d pc (oBin (fun x y => x + y)) := by
  intro p l e s m args below meth c E post hC L st M z K h hK h1 h2 H locs ls hH hS hL
  unfold oBin at h
  split at h
  · exact lv_iadd hC.1 hC.2.1 hdg (hK _ _ _ _ _ h h1 h2 H locs ls hH hS hL)
  · exact h.elim
theorem sSub (hdg : decode (mj_cc d) pc = .ok (.isub, 1)) : mj_S d pc (oBin (fun x y => x - y)) := by
  intro p l e s m args below meth c E post hC L st M z K h hK h1 h2 H locs ls hH hS hL
  unfold oBin at h
  split at h
  · exact lv_isub hC.1 hC.2.1 hdg (hK _ _ _ _ _ h h1 h2 H locs ls hH hS hL)
  · exact h.elim
theorem sMul (hdg : decode (mj_cc d) pc = .ok (.imul, 1)) : mj_S d pc (oBin (fun x y => x * y)) := by
  intro p l e s m args below meth c E post hC L st M z K h hK h1 h2 H locs ls hH hS hL
  unfold oBin at h
  split at h
  · exact lv_imul hC.1 hC.2.1 hdg (hK _ _ _ _ _ h h1 h2 H locs ls hH hS hL)
  · exact h.elim
theorem sAnd (hdg : decode (mj_cc d) pc = .ok (.iand, 1)) : mj_S d pc (oBin (fun x y => x &&& y)) := by
  intro p l e s m args below meth c E post hC L st M z K h hK h1 h2 H locs ls hH hS hL
  unfold oBin at h
  split at h
  · exact lv_iand hC.1 hC.2.1 hdg (hK _ _ _ _ _ h h1 h2 H locs ls hH hS hL)
  · exact h.elim
theorem sOr (hdg : decode (mj_cc d) pc = .ok (.ior, 1)) : mj_S d pc (oBin (fun x y => x ||| y)) := by
  intro p l e s m args below meth c E post hC L st M z K h hK h1 h2 H locs ls hH hS hL
  unfold oBin at h
  split at h
  · exact lv_ior hC.1 hC.2.1 hdg (hK _ _ _ _ _ h h1 h2 H locs ls hH hS hL)
  · exact h.elim
theorem sXor (hdg : decode (mj_cc d) pc = .ok (.ixor, 1)) : mj_S d pc (oBin (fun x y => x ^^^ y)) := by
  intro p l e s m args below meth c E post hC L st M z K h hK h1 h2 H locs ls hH hS hL
  unfold oBin at h
  split at h
  · exact lv_ixor hC.1 hC.2.1 hdg (hK _ _ _ _ _ h h1 h2 H locs ls hH hS hL)
  · exact h.elim
theorem sShl (hdg : decode (mj_cc d) pc = .ok (.ishl, 1)) : mj_S d pc (oBin (fun x y => x <<< (y &&& 31))) := by
  intro p l e s m args below meth c E post hC L st M z K h hK h1 h2 H locs ls hH hS hL
  unfold oBin at h
  split at h
  · exact lv_ishl hC.1 hC.2.1 hdg (hK _ _ _ _ _ h h1 h2 H locs ls hH hS hL)
  · exact h.elim
theorem sShr (hdg : decode (mj_cc d) pc = .ok (.ishr, 1)) : mj_S d pc (oBin (fun x y => x >>> (y &&& 31))) := by
  intro p l e s m args below meth c E post hC L st M z K h hK h1 h2 H locs ls hH hS hL
  unfold oBin at h
  split at h
  · exact lv_ishr hC.1 hC.2.1 hdg (hK _ _ _ _ _ h h1 h2 H locs ls hH hS hL)
  · exact h.elim
theorem sUshr (hdg : decode (mj_cc d) pc = .ok (.iushr, 1)) : mj_S d pc (oBin (fun x y => (x.toUInt32 >>> (y.toUInt32 &&& Int32.toUInt32 31)).toInt32)) := by
  intro p l e s m args below meth c E post hC L st M z K h hK h1 h2 H locs ls hH hS hL
  unfold oBin at h
  split at h
  · exact lv_iushr hC.1 hC.2.1 hdg rfl (hK _ _ _ _ _ h h1 h2 H locs ls hH hS hL)
  · exact h.elim
theorem sNeg (hdg : decode (mj_cc d) pc = .ok (.ineg, 1)) : mj_S d pc (oUn (fun x => -x)) := by
  intro p l e s m args below meth c E post hC L st M z K h hK h1 h2 H locs ls hH hS hL
  unfold oUn at h
  split at h
  · exact lv_ineg hC.1 hC.2.1 hdg (hK _ _ _ _ _ h h1 h2 H locs ls hH hS hL)
  · exact h.elim
theorem sI2c (hdg : decode (mj_cc d) pc = .ok (.i2c, 1)) : mj_S d pc (oUn (fun x => (x.toUInt32 % 65536).toInt32)) := by
  intro p l e s m args below meth c E post hC L st M z K h hK h1 h2 H locs ls hH hS hL
  unfold oUn at h
  split at h
  · exact lv_i2c hC.1 hC.2.1 hdg rfl (hK _ _ _ _ _ h h1 h2 H locs ls hH hS hL)
  · exact h.elim
theorem sDup (hdg : decode (mj_cc d) pc = .ok (.dup, 1)) : mj_S d pc oDup := by
  intro p l e s m args below meth c E post hC L st M z K h hK h1 h2 H locs ls hH hS hL
  unfold oDup at h
  split at h
  · exact lv_dup hC.1 hC.2.1 hdg (mj_cat E _) (hK _ _ _ _ _ h h1 h2 H locs ls hH hS hL)
  · exact h.elim
theorem sPop (hdg : decode (mj_cc d) pc = .ok (.pop, 1)) : mj_S d pc oPop := by
  intro p l e s m args below meth c E post hC L st M z K h hK h1 h2 H locs ls hH hS hL
  unfold oPop at h
  split at h
  · exact lv_pop hC.1 hC.2.1 hdg (mj_cat E _) (hK _ _ _ _ _ h h1 h2 H locs ls hH hS hL)
  · exact h.elim
theorem sDup2 (hdg : decode (mj_cc d) pc = .ok (.dup2, 1)) : mj_S d pc oDup2 := by
  intro p l e s m args below meth c E post hC L st M z K h hK h1 h2 H locs ls hH hS hL
  unfold oDup2 at h
  split at h
  · exact lv_dup2_11 hC.1 hC.2.1 hdg (mj_cat E _) (mj_cat E _) (hK _ _ _ _ _ h h1 h2 H locs ls hH hS hL)
  · exact h.elim
theorem sGoto {off : Int} {t : Nat} (hdg : decode (mj_cc d) pc = .ok (.goto off, 3)) (ht : (pc : Int) + off = (t : Int)) : mj_S d pc (oGoto t) := by
  intro p l e s m args below meth c E post hC L st M z K h hK h1 h2 H locs ls hH hS hL
  exact lv_goto hC.1 hC.2.1 hdg ht (hK _ _ _ _ _ h h1 h2 H locs ls hH hS hL)
theorem sIfNull {off : Int} {t : Nat} (hdg : decode (mj_cc d) pc = .ok (.ifnull off, 3)) (ht : (pc : Int) + off = (t : Int)) : mj_S d pc (oIfNull t) := by
  intro p l e s m args below meth c E post hC L st M z K h hK h1 h2 H locs ls hH hS hL
  unfold oIfNull at h
  split at h
  · rename_i r rest
    cases r with
    | none => exact lv_ifnullN hC.1 hC.2.1 hdg ht (hK _ _ _ _ _ h h1 h2 H locs ls hH hS hL)
    | some o => exact lv_ifnull hC.1 hC.2.1 hdg (hK _ _ _ _ _ h h1 h2 H locs ls hH hS hL)
  · exact h.elim
theorem sIfNN {off : Int} {t : Nat} (hdg : decode (mj_cc d) pc = .ok (.ifnonnull off, 3)) (ht : (pc : Int) + off = (t : Int)) : mj_S d pc (oIfNN t) := by
  intro p l e s m args below meth c E post hC L st M z K h hK h1 h2 H locs ls hH hS hL
  unfold oIfNN at h
  split at h
  · rename_i r rest
    cases r with
    | none => exact lv_ifnonnullN hC.1 hC.2.1 hdg (hK _ _ _ _ _ h h1 h2 H locs ls hH hS hL)
    | some o => exact lv_ifnonnull hC.1 hC.2.1 hdg ht (hK _ _ _ _ _ h h1 h2 H locs ls hH hS hL)
  · exact h.elim
theorem sDiv (hdg : decode (mj_cc d) pc = .ok (.idiv, 1)) : mj_S d pc (oDiv (fun x y => x / y)) := by
  intro p l e s m args below meth c E post hC L st M z K h hK h1 h2 H locs ls hH hS hL
  unfold oDiv at h
  split at h
  · exact lv_idiv hC.1 hC.2.1 hdg h.1 (hK _ _ _ _ _ h.2 h1 h2 H locs ls hH hS hL)
  · exact h.elim
theorem sRem (hdg : decode (mj_cc d) pc = .ok (.irem, 1)) : mj_S d pc (oDiv (fun x y => x - x / y * y)) := by
  intro p l e s m args below meth c E post hC L st M z K h hK h1 h2 H locs ls hH hS hL
  unfold oDiv at h
  split at h
  · exact lv_irem hC.1 hC.2.1 hdg h.1 (hK _ _ _ _ _ h.2 h1 h2 H locs ls hH hS hL)
  · exact h.elim
theorem sIf_eq {off : Int} {t : Nat} (hdg : decode (mj_cc d) pc = .ok (.ifCond .eq off, 3)) (ht : (pc : Int) + off = (t : Int)) : mj_S d pc (oIf (fun x => x = 0) (fun x => ¬ x = 0) t) := by
  intro p l e s m args below meth c E post hC L st M z K h hK h1 h2 H locs ls hH hS hL
  unfold oIf at h
  split at h
  · exact lv_if_eq hC.1 hC.2.1 hdg ht (fun q => hK _ _ _ _ _ (h.1 q) h1 h2 H locs ls hH hS hL) (fun q => hK _ _ _ _ _ (h.2 q) h1 h2 H locs ls hH hS hL)
  · exact h.elim
theorem sIf_ne {off : Int} {t : Nat} (hdg : decode (mj_cc d) pc = .ok (.ifCond .ne off, 3)) (ht : (pc : Int) + off = (t : Int)) : mj_S d pc (oIf (fun x => ¬ x = 0) (fun x => x = 0) t) := by
  intro p l e s m args below meth c E post hC L st M z K h hK h1 h2 H locs ls hH hS hL
  unfold oIf at h
  split at h
  · exact lv_if_ne hC.1 hC.2.1 hdg ht (fun q => hK _ _ _ _ _ (h.1 q) h1 h2 H locs ls hH hS hL) (fun q => hK _ _ _ _ _ (h.2 q) h1 h2 H locs ls hH hS hL)
  · exact h.elim
theorem sIf_lt {off : Int} {t : Nat} (hdg : decode (mj_cc d) pc = .ok (.ifCond .lt off, 3)) (ht : (pc : Int) + off = (t : Int)) : mj_S d pc (oIf (fun x => x < 0) (fun x => ¬ x < 0) t) := by
  intro p l e s m args below meth c E post hC L st M z K h hK h1 h2 H locs ls hH hS hL
  unfold oIf at h
  split at h
  · exact lv_if_lt hC.1 hC.2.1 hdg ht (fun q => hK _ _ _ _ _ (h.1 q) h1 h2 H locs ls hH hS hL) (fun q => hK _ _ _ _ _ (h.2 q) h1 h2 H locs ls hH hS hL)
  · exact h.elim
theorem sIf_ge {off : Int} {t : Nat} (hdg : decode (mj_cc d) pc = .ok (.ifCond .ge off, 3)) (ht : (pc : Int) + off = (t : Int)) : mj_S d pc (oIf (fun x => 0 ≤ x) (fun x => ¬ 0 ≤ x) t) := by
  intro p l e s m args below meth c E post hC L st M z K h hK h1 h2 H locs ls hH hS hL
  unfold oIf at h
  split at h
  · exact lv_if_ge hC.1 hC.2.1 hdg ht (fun q => hK _ _ _ _ _ (h.1 q) h1 h2 H locs ls hH hS hL) (fun q => hK _ _ _ _ _ (h.2 q) h1 h2 H locs ls hH hS hL)
  · exact h.elim
theorem sIf_gt {off : Int} {t : Nat} (hdg : decode (mj_cc d) pc = .ok (.ifCond .gt off, 3)) (ht : (pc : Int) + off = (t : Int)) : mj_S d pc (oIf (fun x => 0 < x) (fun x => ¬ 0 < x) t) := by
  intro p l e s m args below meth c E post hC L st M z K h hK h1 h2 H locs ls hH hS hL
  unfold oIf at h
  split at h
  · exact lv_if_gt hC.1 hC.2.1 hdg ht (fun q => hK _ _ _ _ _ (h.1 q) h1 h2 H locs ls hH hS hL) (fun q => hK _ _ _ _ _ (h.2 q) h1 h2 H locs ls hH hS hL)
  · exact h.elim
theorem sIf_le {off : Int} {t : Nat} (hdg : decode (mj_cc d) pc = .ok (.ifCond .le off, 3)) (ht : (pc : Int) + off = (t : Int)) : mj_S d pc (oIf (fun x => x ≤ 0) (fun x => ¬ x ≤ 0) t) := by
  intro p l e s m args below meth c E post hC L st M z K h hK h1 h2 H locs ls hH hS hL
  unfold oIf at h
  split at h
  · exact lv_if_le hC.1 hC.2.1 hdg ht (fun q => hK _ _ _ _ _ (h.1 q) h1 h2 H locs ls hH hS hL) (fun q => hK _ _ _ _ _ (h.2 q) h1 h2 H locs ls hH hS hL)
  · exact h.elim
theorem sCmp_eq {off : Int} {t : Nat} (hdg : decode (mj_cc d) pc = .ok (.if_icmp .eq off, 3)) (ht : (pc : Int) + off = (t : Int)) : mj_S d pc (oCmp (fun x y => x = y) (fun x y => ¬ x = y) t) := by
  intro p l e s m args below meth c E post hC L st M z K h hK h1 h2 H locs ls hH hS hL
  unfold oCmp at h
  split at h
  · exact lv_icmp_eq hC.1 hC.2.1 hdg ht (fun q => hK _ _ _ _ _ (h.1 q) h1 h2 H locs ls hH hS hL) (fun q => hK _ _ _ _ _ (h.2 q) h1 h2 H locs ls hH hS hL)
  · exact h.elim
theorem sCmp_ne {off : Int} {t : Nat} (hdg : decode (mj_cc d) pc = .ok (.if_icmp .ne off, 3)) (ht : (pc : Int) + off = (t : Int)) : mj_S d pc (oCmp (fun x y => ¬ x = y) (fun x y => x = y) t) := by
  intro p l e s m args below meth c E post hC L st M z K h hK h1 h2 H locs ls hH hS hL
  unfold oCmp at h
  split at h
  · exact lv_icmp_ne hC.1 hC.2.1 hdg ht (fun q => hK _ _ _ _ _ (h.1 q) h1 h2 H locs ls hH hS hL) (fun q => hK _ _ _ _ _ (h.2 q) h1 h2 H locs ls hH hS hL)
  · exact h.elim
theorem sCmp_lt {off : Int} {t : Nat} (hdg : decode (mj_cc d) pc = .ok (.if_icmp .lt off, 3)) (ht : (pc : Int) + off = (t : Int)) : mj_S d pc (oCmp (fun x y => x < y) (fun x y => ¬ x < y) t) := by
  intro p l e s m args below meth c E post hC L st M z K h hK h1 h2 H locs ls hH hS hL
  unfold oCmp at h
  split at h
  · exact lv_icmp_lt hC.1 hC.2.1 hdg ht (fun q => hK _ _ _ _ _ (h.1 q) h1 h2 H locs ls hH hS hL) (fun q => hK _ _ _ _ _ (h.2 q) h1 h2 H locs ls hH hS hL)
  · exact h.elim
theorem sCmp_ge {off : Int} {t : Nat} (hdg : decode (mj_cc d) pc = .ok (.if_icmp .ge off, 3)) (ht : (pc : Int) + off = (t : Int)) : mj_S d pc (oCmp (fun x y => y ≤ x) (fun x y => ¬ y ≤ x) t) := by
  intro p l e s m args below meth c E post hC L st M z K h hK h1 h2 H locs ls hH hS hL
  unfold oCmp at h
  split at h
  · exact lv_icmp_ge hC.1 hC.2.1 hdg ht (fun q => hK _ _ _ _ _ (h.1 q) h1 h2 H locs ls hH hS hL) (fun q => hK _ _ _ _ _ (h.2 q) h1 h2 H locs ls hH hS hL)
  · exact h.elim
theorem sCmp_gt {off : Int} {t : Nat} (hdg : decode (mj_cc d) pc = .ok (.if_icmp .gt off, 3)) (ht : (pc : Int) + off = (t : Int)) : mj_S d pc (oCmp (fun x y => y < x) (fun x y => ¬ y < x) t) := by
  intro p l e s m args below meth c E post hC L st M z K h hK h1 h2 H locs ls hH hS hL
  unfold oCmp at h
  split at h
  · exact lv_icmp_gt hC.1 hC.2.1 hdg ht (fun q => hK _ _ _ _ _ (h.1 q) h1 h2 H locs ls hH hS hL) (fun q => hK _ _ _ _ _ (h.2 q) h1 h2 H locs ls hH hS hL)
  · exact h.elim
theorem sCmp_le {off : Int} {t : Nat} (hdg : decode (mj_cc d) pc = .ok (.if_icmp .le off, 3)) (ht : (pc : Int) + off = (t : Int)) : mj_S d pc (oCmp (fun x y => x ≤ y) (fun x y => ¬ x ≤ y) t) := by
  intro p l e s m args below meth c E post hC L st M z K h hK h1 h2 H locs ls hH hS hL
  unfold oCmp at h
  split at h
  · exact lv_icmp_le hC.1 hC.2.1 hdg ht (fun q => hK _ _ _ _ _ (h.1 q) h1 h2 H locs ls hH hS hL) (fun q => hK _ _ _ _ _ (h.2 q) h1 h2 H locs ls hH hS hL)
  · exact h.elim
end MJO
end
section
theorem wsL_good : wsL_law.all goodWord = true := by decide +kernel
theorem wsL_gi {ws : List Cond} (h : ∀ w ∈ ws, w ∈ wsL_law) : GoodIn wsL_law ws := fun w hw => ⟨h w hw, good_of_word (List.all_eq_true.mp wsL_good w (h w hw))⟩
def mj_up (I : mj_I) (o k : Nat) (x : Int32) : mj_I := fun o' => if o' = o then upd (I o) k x else I o'
def mj_uF (F : mj_F) (o k : Nat) (x : Option Nat) : mj_F := fun o' => if o' = o then va_up (F o) k x else F o'
theorem mj_up_ne {I : mj_I} {o k : Nat} {x : Int32} {o' : Nat} (h : o' ≠ o) : mj_up I o k x o' = I o' := if_neg h
theorem mj_up_eq {I : mj_I} {o k : Nat} {x : Int32} : mj_up I o k x o = upd (I o) k x := if_pos rfl
theorem mj_uF_ne {F : mj_F} {o k : Nat} {x : Option Nat} {o' : Nat} (h : o' ≠ o) : mj_uF F o k x o' = F o' := if_neg h
theorem mj_uF_eq {F : mj_F} {o k : Nat} {x : Option Nat} : mj_uF F o k x o = va_up (F o) k x := if_pos rfl
theorem mj_ad_lt {E : mj_E} {M : mj_M} {o : Nat} (h : o < M.1) (h2 : M.1 ≤ 1000) : mj_ad E o = E.2.2.1 + o := if_pos (by omega)
theorem mj_ws_at {E : mj_E} {M : mj_M} {o : Nat} (h : o < M.1) : (mj_ws E M)[o]? = some (E.2.2.1 + o, mj_ce E M o) := by
  simp [mj_ws, h]
theorem mj_ws_D {E : mj_E} {M : mj_M} : va_D (mj_A E) (mj_ws E M) := by
  have key : ∀ (k : Nat) (q : Nat × va_E), (mj_ws E M)[k]? = some q → q.1 = E.2.2.1 + k := by
    intro k q h
    simp only [mj_ws, List.getElem?_map, Option.map_eq_some_iff] at h
    obtain ⟨a, h1, h2⟩ := h
    obtain ⟨h3, h4⟩ := List.getElem?_eq_some_iff.mp h1
    rw [List.getElem_range] at h4
    rw [← h2, ← h4]
  refine ⟨fun i j x y hi hj hxy => ?_, fun k q hk => ?_⟩
  · have h1 := key i x hi
    have h2 := key j y hj
    omega
  · show E.2.2.1 ≤ q.1
    have h1 := key k q hk
    omega
theorem mj_ws_set {E : mj_E} {M M' : mj_M} {o : Nat} {e : va_E} (hn : M'.1 = M.1) (ho : o < M.1) (he : mj_ce E M' o = e) (hx : ∀ q, q ≠ o → mj_ce E M' q = mj_ce E M q) : (mj_ws E M).set o (E.2.2.1 + o, e) = mj_ws E M' := by
  apply List.ext_getElem?
  intro k
  by_cases hk : k = o
  · subst hk
    rw [List.getElem?_set_self (by simp [mj_ws, ho]), mj_ws_at (by omega), he]
  · rw [List.getElem?_set_ne (fun h => hk h.symm)]
    by_cases hk2 : k < M.1
    · rw [mj_ws_at hk2, mj_ws_at (by omega), hx k hk]
    · rw [List.getElem?_eq_none (by simp [mj_ws]; omega), List.getElem?_eq_none (by simp [mj_ws]; omega)]
theorem mj_ce_ob {E : mj_E} {M : mj_M} {o t N : Nat} (h : mj_sh o = (t, N)) (ht : t < 11) : mj_ce E M o = .inr (t, (List.range N).map (mj_fv E (M.2.1 o) (M.2.2 o) t)) := by
  simp only [mj_ce, h]
  rw [if_pos ht]
theorem mj_ce_int {E : mj_E} {M : mj_M} {o t : Nat} (h : (mj_sh o).1 = t) (ht : 11 ≤ t) (ht2 : t < 13) : mj_ce E M o = .inl (E.2.1 (t - 11), (mj_sh o).2, .inl (M.2.2 o)) := by
  simp only [mj_ce, h]
  rw [if_neg (by omega), if_pos ht2]
theorem mj_ce_ref {E : mj_E} {M : mj_M} {o t : Nat} (h : (mj_sh o).1 = t) (ht : 13 ≤ t) : mj_ce E M o = .inl (E.2.1 (t - 11), (mj_sh o).2, .inr (.inr (.inr (.inr (fun j => (M.2.1 o j).map (mj_ad E)))))) := by
  simp only [mj_ce, h]
  rw [if_neg (by omega), if_neg (by omega)]
theorem mj_ce_up {E : mj_E} {n : Nat} {F : mj_F} {I : mj_I} {o k q : Nat} {x : Int32} (h : q ≠ o) : mj_ce E (n, F, mj_up I o k x) q = mj_ce E (n, F, I) q := by
  simp only [mj_ce, mj_up_ne h]
theorem mj_ce_uF {E : mj_E} {n : Nat} {F : mj_F} {I : mj_I} {o k q : Nat} {x : Option Nat} (h : q ≠ o) : mj_ce E (n, mj_uF F o k x, I) q = mj_ce E (n, F, I) q := by
  simp only [mj_ce, mj_uF_ne h]
theorem mj_fvs {E : mj_E} {f : Nat → Option Nat} {g : Nat → Int32} {t k N : Nat} {x : Int32} (hk : k < N) (hr : mj_rk t k = false) : (List.range N).map (mj_fv E f (upd g k x) t) = ((List.range N).map (mj_fv E f g t)).set k (.int x) := by
  apply List.ext_getElem?
  intro j
  by_cases hj : j = k
  · subst hj
    rw [List.getElem?_set_self (by simpa using hk)]
    simp [hk, mj_fv, hr, upd]
  · rw [List.getElem?_set_ne (fun h => hj h.symm)]
    simp only [List.getElem?_map]
    by_cases hN : j < N
    · simp [hN, mj_fv, upd, hj]
    · rw [List.getElem?_eq_none (by simpa using hN)]; rfl
theorem mj_fvF {E : mj_E} {f : Nat → Option Nat} {g : Nat → Int32} {t k N : Nat} {x : Option Nat} (hk : k < N) (hr : mj_rk t k = true) : (List.range N).map (mj_fv E (va_up f k x) g t) = ((List.range N).map (mj_fv E f g t)).set k (va_rf (x.map (mj_ad E))) := by
  apply List.ext_getElem?
  intro j
  by_cases hj : j = k
  · subst hj
    rw [List.getElem?_set_self (by simpa using hk)]
    simp [hk, mj_fv, hr, va_up]
  · rw [List.getElem?_set_ne (fun h => hj h.symm)]
    simp only [List.getElem?_map]
    by_cases hN : j < N
    · simp [hN, mj_fv, va_up, hj]
    · rw [List.getElem?_eq_none (by simpa using hN)]; rfl
/-! fields -/
def oGetI (t : Nat × Nat) (k : Nat) : mj_O := fun pc L st M z K _ => match st with
  | .inr (some o) :: rest => mj_sh o = t ∧ o < M.1 ∧ K (pc + 3) L (.inl (M.2.2 o k) :: rest) M z
  | _ => False
def oGetR (t : Nat × Nat) (k : Nat) : mj_O := fun pc L st M z K _ => match st with
  | .inr (some o) :: rest => mj_sh o = t ∧ o < M.1 ∧ K (pc + 3) L (.inr (M.2.1 o k) :: rest) M z
  | _ => False
def oPutI (t : Nat × Nat) (k : Nat) : mj_O := fun pc L st M z K _ => match st with
  | .inl x :: .inr (some o) :: rest => mj_sh o = t ∧ o < M.1 ∧ K (pc + 3) L rest (M.1, M.2.1, mj_up M.2.2 o k x) z
  | _ => False
def oPutZ (t : Nat × Nat) (k : Nat) : mj_O := fun pc L st M z K _ => match st with
  | .inl x :: .inr (some o) :: rest => mj_sh o = t ∧ o < M.1 ∧ (x = 0 ∨ x = 1) ∧ K (pc + 3) L rest (M.1, M.2.1, mj_up M.2.2 o k x) z
  | _ => False
def oPutR (t : Nat × Nat) (k : Nat) : mj_O := fun pc L st M z K _ => match st with
  | .inr (some r) :: .inr (some o) :: rest => mj_sh o = t ∧ o < M.1 ∧ K (pc + 3) L rest (M.1, mj_uF M.2.1 o k (some r), M.2.2) z
  | _ => False
def oIald : mj_O := fun pc L st M z K _ => match st with
  | .inl i :: .inr (some o) :: rest => (mj_sh o).1 = 11 ∧ o < M.1 ∧ vp_in i (mj_sh o).2 ∧ K (pc + 1) L (.inl (M.2.2 o i.toNatClampNeg) :: rest) M z
  | _ => False
def oZald : mj_O := fun pc L st M z K _ => match st with
  | .inl i :: .inr (some o) :: rest => (mj_sh o).1 = 12 ∧ o < M.1 ∧ vp_in i (mj_sh o).2 ∧ K (pc + 1) L (.inl (M.2.2 o i.toNatClampNeg) :: rest) M z
  | _ => False
def oAald (t : Nat) : mj_O := fun pc L st M z K _ => match st with
  | .inl i :: .inr (some o) :: rest => (mj_sh o).1 = t ∧ o < M.1 ∧ vp_in i (mj_sh o).2 ∧ K (pc + 1) L (.inr (M.2.1 o i.toNatClampNeg) :: rest) M z
  | _ => False
def oIast : mj_O := fun pc L st M z K _ => match st with
  | .inl x :: .inl i :: .inr (some o) :: rest => (mj_sh o).1 = 11 ∧ o < M.1 ∧ vp_in i (mj_sh o).2 ∧ K (pc + 1) L rest (M.1, M.2.1, mj_up M.2.2 o i.toNatClampNeg x) z
  | _ => False
def oZast : mj_O := fun pc L st M z K _ => match st with
  | .inl x :: .inl i :: .inr (some o) :: rest => (mj_sh o).1 = 12 ∧ o < M.1 ∧ vp_in i (mj_sh o).2 ∧ (x = 0 ∨ x = 1) ∧ K (pc + 1) L rest (M.1, M.2.1, mj_up M.2.2 o i.toNatClampNeg x) z
  | _ => False
def oLen : mj_O := fun pc L st M z K _ => match st with
  | .inr (some o) :: rest => 11 ≤ (mj_sh o).1 ∧ (mj_sh o).1 < 16 ∧ o < M.1 ∧ K (pc + 1) L (.inl (Int32.ofNat (mj_sh o).2) :: rest) M z
  | _ => False
/-- rows outside -/
def oGets (k : Nat) : mj_O := fun pc L st M z K _ => K (pc + 3) L (.inr (some (1000 + k)) :: st) M z
def oXald (k : Nat) : mj_O := fun pc L st M z K _ => match st with
  | .inl i :: .inr (some o) :: rest => o = 1000 + k ∧ vp_in i 6 ∧ K (pc + 1) L (.inl (mj_xc k i.toNatClampNeg) :: rest) M z
  | _ => False
def oXlen (k : Nat) : mj_O := fun pc L st M z K _ => match st with
  | .inr (some o) :: rest => o = 1000 + k ∧ K (pc + 1) L (.inl 6 :: rest) M z
  | _ => False
def oLdcS (i : Nat) : mj_O := fun pc L st M z K _ => K (pc + 2) L (.inr (some (1010 + i)) :: st) M z
section MJM
variable {d : mj_D} {pc : Nat}
theorem sGetI {t N k idx : Nat} {C : String} {T : u_T} (hdg : decode (mj_cc d) pc = .ok (.getfield idx, 3)) (hc : vwCl[t]? = some (C, T, N)) (hin : ∀ w ∈ u_ws C T N, w ∈ wsL_law) (hk : k < N) (hT : (T k).1 = C) (hl : Cond.fieldLink (mj_y d).cls idx C (T k).2.1 (T k).2.2.1 ∈ wsL_law) (hr : mj_rk t k = false) (ht : t < 11) : mj_S d pc (oGetI (t, N) k) := by
  intro p l e s m args below meth c E post hC L st M z K h hK h1 h2 H locs ls hH hS hL
  unfold oGetI at h
  split at h
  · rename_i o rest
    obtain ⟨g1, g2, h⟩ := h
    obtain ⟨hP, hz, hM⟩ := hH
    have ha := mj_ad_lt (E := E) g2 hM
    show W p l e _ s m args below meth c H locs z.1 z.2 _ (F0 m pc ls (.ref (mj_ad E o) :: rest.map (mj_cv E)))
    rw [ha]
    refine va_get hC.1 hC.2.1 hC.2.2.2.2.1 hin hC.2.2.2.1 hC.2.2.2.2.2.2.2.2.1.1 hP o ((mj_ws_at g2).trans (by rw [mj_ce_ob g1 ht])) hc k hk (hC.2.2.2.2.1 _ hl) (fun x hx => by rw [hT] at hx; exact hx) (v := .int (M.2.2 o k)) (by simp [hk, mj_fv, hr]) hdg ?_
    exact hK _ _ _ _ _ h h1 h2 H locs ls ⟨hP, hz, hM⟩ hS hL
  · exact h.elim
theorem sGetR {t N k idx : Nat} {C : String} {T : u_T} (hdg : decode (mj_cc d) pc = .ok (.getfield idx, 3)) (hc : vwCl[t]? = some (C, T, N)) (hin : ∀ w ∈ u_ws C T N, w ∈ wsL_law) (hk : k < N) (hT : (T k).1 = C) (hl : Cond.fieldLink (mj_y d).cls idx C (T k).2.1 (T k).2.2.1 ∈ wsL_law) (hr : mj_rk t k = true) (ht : t < 11) : mj_S d pc (oGetR (t, N) k) := by
  intro p l e s m args below meth c E post hC L st M z K h hK h1 h2 H locs ls hH hS hL
  unfold oGetR at h
  split at h
  · rename_i o rest
    obtain ⟨g1, g2, h⟩ := h
    obtain ⟨hP, hz, hM⟩ := hH
    have ha := mj_ad_lt (E := E) g2 hM
    show W p l e _ s m args below meth c H locs z.1 z.2 _ (F0 m pc ls (.ref (mj_ad E o) :: rest.map (mj_cv E)))
    rw [ha]
    refine va_get hC.1 hC.2.1 hC.2.2.2.2.1 hin hC.2.2.2.1 hC.2.2.2.2.2.2.2.2.1.1 hP o ((mj_ws_at g2).trans (by rw [mj_ce_ob g1 ht])) hc k hk (hC.2.2.2.2.1 _ hl) (fun x hx => by rw [hT] at hx; exact hx) (v := va_rf ((M.2.1 o k).map (mj_ad E))) (by simp [hk, mj_fv, hr]) hdg ?_
    exact hK _ _ _ _ _ h h1 h2 H locs ls ⟨hP, hz, hM⟩ hS hL
  · exact h.elim
theorem mj_putH {E : mj_E} {M : mj_M} {o k t N : Nat} {x : Int32} {H1 : Heap} (g1 : mj_sh o = (t, N)) (g2 : o < M.1) (ht : t < 11) (hk : k < N) (hr : mj_rk t k = false) (hM : M.1 ≤ 1000)
    (hP : va_P E.1 vwCl ((mj_ws E M).set o (E.2.2.1 + o, .inr (t, ((List.range N).map (mj_fv E (M.2.1 o) (M.2.2 o) t)).set k (.int x)))) H1) : va_P E.1 vwCl (mj_ws E (M.1, M.2.1, mj_up M.2.2 o k x)) H1 := by
  rw [mj_ws_set (E := E) (M := M) (M' := (M.1, M.2.1, mj_up M.2.2 o k x)) (e := .inr (t, ((List.range N).map (mj_fv E (M.2.1 o) (M.2.2 o) t)).set k (.int x))) rfl g2 (by rw [mj_ce_ob g1 ht]; simp only [mj_up_eq]; rw [mj_fvs hk hr]) (fun q hq => mj_ce_up hq)] at hP
  exact hP
theorem mj_put {p : Program} {l : Launch} {e : Env} {R : Room} {s : State} {m : MethodId} {args : Array Value} {below : List Frame} {meth : Method} {c : Code} {H : Heap} {locs : List Loc} {cells slots : Nat} {Q : State → Prop} {cc : ByteArray} {pc : Nat} {ls : Array Slot} {rest : List Value} {D : va_G} {cl : List vw_C} {A : Nat → Prop} {a : Nat} {tys : List (ClassId × FieldType)} {ws : va_W} {H0 : Heap} (hexec : p.tables.exec = Jvm.exec) (hb : c.code = cc) {own ref C : String} {T : u_T} {N ci index : Nat} {Ts : List Cond} (hts : ∀ w ∈ Ts, w.before args s = true) (hin : ∀ w ∈ u_ws C T N, w ∈ Ts) (ty0 : Nat → FieldType) (hty : ∀ k, k < N → parseFieldDescriptor (T k).2.2.1 = some (ty0 k)) (hnm : ∀ a, a < N → ∀ b, b < N → a ≠ b → (T a).2.1 ≠ (T b).2.1) (hown : s.vm.findClass own = some m.cls) (hK : va_K D cl tys s) (hP : va_P D cl ws H) (hD : va_D A ws) (hS0 : va_S A H0 H locs) (q0 : Nat) {fs : List Value} (he : ws[q0]? = some (a, .inr (ci, fs))) (hc : cl[ci]? = some (C, T, N)) (k : Nat) (hk : k < N) (hlink : (Cond.fieldLink own index ref (T k).2.1 (T k).2.2.1).before args s = true) (hsame : ∀ x, s.fieldFound? (T k).1 (T k).2.1 (T k).2.2.1 = some x → s.fieldFound? ref (T k).2.1 (T k).2.2.1 = some x) (hfin : (T k).2.2.2 = false) {ty : FieldType} {v : Value} (hd : parseFieldDescriptor (T k).2.2.1 = some ty) (hn : narrow ty v = v) (hfit : fits ty v = true) (hl : k < fs.length)
    (hdg : decode cc pc = .ok (.putfield index, 3)) (kk : ∀ (H1 : Heap) (locs1 : List Loc), H1.size = H.size → va_P D cl (ws.set q0 (a, .inr (ci, fs.set k v))) H1 → va_S A H0 H1 locs1 → W p l e R s m args below meth c H1 locs1 cells slots Q (F0 m (pc + 3) ls rest)) : W p l e R s m args below meth c H locs cells slots Q (F0 m pc ls (v :: .ref a :: rest)) := by
  have hap := va_apart (own := own) hts hin ty0 hty hnm hK hc
  obtain ⟨r, h1, cell, q1, q2, q3, q4⟩ := hP q0 _ he
  have hr : r = (C, T, N) := Option.some.inj (h1.symm.trans hc)
  subst hr
  obtain ⟨hS, hfc, kC, hkC, hkind⟩ := hK.1 ci _ hc
  obtain ⟨cf, kf, fi, f, hi, hsl⟩ := hS k hk
  have hlay := hts _ (hin _ (u_in_lay hk))
  unfold u_lay at hlay
  rw [if_neg (by rw [hfin]; decide)] at hlay
  have hst := (u_facts hfc hkC (u_lays hts hin hk) hi).1
  have h6 := u_store hfc hkC hkind hlay hi hd hn hfit
  refine W.putK hexec hb (f := f) ⟨hown, hlink, ⟨_, _, _, hsame _ hi⟩, hst⟩ (by rw [q2]; exact h6) q1 q3 (by rw [hsl]; exact k2_hasslot (q4 k hk)) rfl rfl hdg fun H' e1 e2 e3 => ?_
  rw [hsl] at e1 ⊢
  exact kk H' _ e2 (hP.set hD he ⟨_, hc, t_OB.to (V := updV (vp_V fs) k v) ⟨_, e1, q2, q3, t_set q4 hap hk v⟩ (fun j _ => vp_updV_set hl v j)⟩ e3) (hS0.put e2 e3 (hD.2 q0 _ he))
theorem mj_putF {p : Program} {l : Launch} {e : Env} {R : Room} {s : State} {m : MethodId} {args : Array Value} {below : List Frame} {meth : Method} {c : Code} {H : Heap} {locs : List Loc} {cells slots : Nat} {Q : State → Prop} {cc : ByteArray} {pc : Nat} {ls : Array Slot} {rest : List Value} {D : va_G} {cl : List vw_C} {A : Nat → Prop} {a : Nat} {tys : List (ClassId × FieldType)} {ws : va_W} {H0 : Heap} (hexec : p.tables.exec = Jvm.exec) (hb : c.code = cc) {own ref C : String} {T : u_T} {N ci index : Nat} {Ts : List Cond} (hts : ∀ w ∈ Ts, w.before args s = true) (hin : ∀ w ∈ u_ws C T N, w ∈ Ts) (ty0 : Nat → FieldType) (hty : ∀ k, k < N → parseFieldDescriptor (T k).2.2.1 = some (ty0 k)) (hnm : ∀ a, a < N → ∀ b, b < N → a ≠ b → (T a).2.1 ≠ (T b).2.1) (hown : s.vm.findClass own = some m.cls) (hK : va_K D cl tys s) (hP : va_P D cl ws H) (hD : va_D A ws) (hS0 : va_S A H0 H locs) (q0 : Nat) {fs : List Value} (he : ws[q0]? = some (a, .inr (ci, fs))) (hc : cl[ci]? = some (C, T, N)) (k : Nat) (hk : k < N) (hlink : (Cond.fieldLink own index ref (T k).2.1 (T k).2.2.1).before args s = true) (hsame : ∀ x, s.fieldFound? (T k).1 (T k).2.1 (T k).2.2.1 = some x → s.fieldFound? ref (T k).2.1 (T k).2.2.1 = some x) (hfin : (T k).2.2.2 = true) (hin2 : meth.name = "<init>") (hdecl : (T k).1 = own) {ty : FieldType} {v : Value} (hd : parseFieldDescriptor (T k).2.2.1 = some ty) (hn : narrow ty v = v) (hfit : fits ty v = true) (hl : k < fs.length)
    (hdg : decode cc pc = .ok (.putfield index, 3)) (kk : ∀ (H1 : Heap) (locs1 : List Loc), H1.size = H.size → va_P D cl (ws.set q0 (a, .inr (ci, fs.set k v))) H1 → va_S A H0 H1 locs1 → W p l e R s m args below meth c H1 locs1 cells slots Q (F0 m (pc + 3) ls rest)) : W p l e R s m args below meth c H locs cells slots Q (F0 m pc ls (v :: .ref a :: rest)) := by
  have hap := va_apart (own := own) hts hin ty0 hty hnm hK hc
  obtain ⟨r, h1, cell, q1, q2, q3, q4⟩ := hP q0 _ he
  have hr : r = (C, T, N) := Option.some.inj (h1.symm.trans hc)
  subst hr
  obtain ⟨hS, hfc, kC, hkC, hkind⟩ := hK.1 ci _ hc
  obtain ⟨cf, kf, fi, f, hi, hsl⟩ := hS k hk
  have hlay := hts _ (hin _ (u_in_lay hk))
  unfold u_lay at hlay
  rw [if_pos hfin] at hlay
  have hst := (u_facts hfc hkC (u_lays hts hin hk) hi).1
  have hcf : m.cls = cf := by
    obtain ⟨_, _, c', _, _, _, -, -, hf', -, -, -, hown2, -⟩ := Cond.laysFinal_spec hlay
    have e1 : c' = cf := by have := hi.symm.trans hf'; simp at this; exact this.1.symm
    rw [hdecl] at hown2
    rw [← e1]; exact Option.some.inj (hown.symm.trans hown2)
  have h6 := u_fits hfc hkC hkind (Or.inr hlay) hi hd hn hfit
  refine W.putFinK hexec hb hown hlink (hsame _ hi) hst hcf hin2 (by rw [q2]; exact h6) q1 q3 (by rw [hsl]; exact k2_hasslot (q4 k hk)) rfl rfl hdg fun H' e1 e2 e3 => ?_
  rw [hsl] at e1 ⊢
  exact kk H' _ e2 (hP.set hD he ⟨_, hc, t_OB.to (V := updV (vp_V fs) k v) ⟨_, e1, q2, q3, t_set q4 hap hk v⟩ (fun j _ => vp_updV_set hl v j)⟩ e3) (hS0.put e2 e3 (hD.2 q0 _ he))
theorem mj_putFH {E : mj_E} {M : mj_M} {o k t N : Nat} {x : Option Nat} {H1 : Heap} (g1 : mj_sh o = (t, N)) (g2 : o < M.1) (ht : t < 11) (hk : k < N) (hr : mj_rk t k = true)
    (hP : va_P E.1 vwCl ((mj_ws E M).set o (E.2.2.1 + o, .inr (t, ((List.range N).map (mj_fv E (M.2.1 o) (M.2.2 o) t)).set k (va_rf (x.map (mj_ad E)))))) H1) : va_P E.1 vwCl (mj_ws E (M.1, mj_uF M.2.1 o k x, M.2.2)) H1 := by
  rw [mj_ws_set (E := E) (M := M) (M' := (M.1, mj_uF M.2.1 o k x, M.2.2)) (e := .inr (t, ((List.range N).map (mj_fv E (M.2.1 o) (M.2.2 o) t)).set k (va_rf (x.map (mj_ad E))))) rfl g2 (by rw [mj_ce_ob g1 ht]; simp only [mj_uF_eq]; rw [mj_fvF hk hr]) (fun q hq => mj_ce_uF hq)] at hP
  exact hP
theorem sPutI {t N k idx : Nat} {C : String} {T : u_T} {ty0 : Nat → FieldType} (hdg : decode (mj_cc d) pc = .ok (.putfield idx, 3)) (hc : vwCl[t]? = some (C, T, N)) (hin : ∀ w ∈ u_ws C T N, w ∈ wsL_law) (hty : ∀ k, k < N → parseFieldDescriptor (T k).2.2.1 = some (ty0 k)) (hnm : ∀ a, a < N → ∀ b, b < N → a ≠ b → (T a).2.1 ≠ (T b).2.1) (hk : k < N) (hT : (T k).1 = C ∧ (T k).2.2.2 = false ∧ ty0 k = .int) (hl : Cond.fieldLink (mj_y d).cls idx C (T k).2.1 (T k).2.2.1 ∈ wsL_law) (hr : mj_rk t k = false) (ht : t < 11) : mj_S d pc (oPutI (t, N) k) := by
  intro p l e s m args below meth c E post hC L st M z K h hK h1 h2 H locs ls hH hS hL
  unfold oPutI at h
  split at h
  · rename_i x o rest
    obtain ⟨g1, g2, h⟩ := h
    obtain ⟨hP, hz, hM⟩ := hH
    have ha := mj_ad_lt (E := E) g2 hM
    show W p l e _ s m args below meth c H locs z.1 z.2 _ (F0 m pc ls (.int x :: .ref (mj_ad E o) :: rest.map (mj_cv E)))
    rw [ha]
    refine mj_put hC.1 hC.2.1 hC.2.2.2.2.1 hin ty0 hty hnm hC.2.2.2.1 hC.2.2.2.2.2.2.2.2.1.1 hP mj_ws_D hS o ((mj_ws_at g2).trans (by rw [mj_ce_ob g1 ht])) hc k hk (hC.2.2.2.2.1 _ hl) (fun x hx => by rw [hT.1] at hx; exact hx) hT.2.1 ((hty k hk).trans (by rw [hT.2.2])) rfl rfl (by simpa using hk) hdg ?_
    exact fun H1 locs1 hz1 hP1 hS1 => hK _ _ _ _ _ h h1 h2 H1 locs1 ls ⟨mj_putH g1 g2 ht hk hr hM hP1, hz1.trans hz, hM⟩ hS1 hL
  · exact h.elim
theorem sPutZ {t N k idx : Nat} {C : String} {T : u_T} {ty0 : Nat → FieldType} (hdg : decode (mj_cc d) pc = .ok (.putfield idx, 3)) (hc : vwCl[t]? = some (C, T, N)) (hin : ∀ w ∈ u_ws C T N, w ∈ wsL_law) (hty : ∀ k, k < N → parseFieldDescriptor (T k).2.2.1 = some (ty0 k)) (hnm : ∀ a, a < N → ∀ b, b < N → a ≠ b → (T a).2.1 ≠ (T b).2.1) (hk : k < N) (hT : (T k).1 = C ∧ (T k).2.2.2 = false ∧ ty0 k = .boolean) (hl : Cond.fieldLink (mj_y d).cls idx C (T k).2.1 (T k).2.2.1 ∈ wsL_law) (hr : mj_rk t k = false) (ht : t < 11) : mj_S d pc (oPutZ (t, N) k) := by
  intro p l e s m args below meth c E post hC L st M z K h hK h1 h2 H locs ls hH hS hL
  unfold oPutZ at h
  split at h
  · rename_i x o rest
    obtain ⟨g1, g2, g3, h⟩ := h
    obtain ⟨hP, hz, hM⟩ := hH
    have ha := mj_ad_lt (E := E) g2 hM
    show W p l e _ s m args below meth c H locs z.1 z.2 _ (F0 m pc ls (.int x :: .ref (mj_ad E o) :: rest.map (mj_cv E)))
    rw [ha]
    refine mj_put hC.1 hC.2.1 hC.2.2.2.2.1 hin ty0 hty hnm hC.2.2.2.1 hC.2.2.2.2.2.2.2.2.1.1 hP mj_ws_D hS o ((mj_ws_at g2).trans (by rw [mj_ce_ob g1 ht])) hc k hk (hC.2.2.2.2.1 _ hl) (fun x hx => by rw [hT.1] at hx; exact hx) hT.2.1 ((hty k hk).trans (by rw [hT.2.2])) (by rcases g3 with rfl | rfl <;> rfl) (by rcases g3 with rfl | rfl <;> rfl) (by simpa using hk) hdg ?_
    exact fun H1 locs1 hz1 hP1 hS1 => hK _ _ _ _ _ h h1 h2 H1 locs1 ls ⟨mj_putH g1 g2 ht hk hr hM hP1, hz1.trans hz, hM⟩ hS1 hL
  · exact h.elim
theorem sPutR {t N k idx : Nat} {C : String} {T : u_T} {ty0 : Nat → FieldType} (hdg : decode (mj_cc d) pc = .ok (.putfield idx, 3)) (hc : vwCl[t]? = some (C, T, N)) (hin : ∀ w ∈ u_ws C T N, w ∈ wsL_law) (hty : ∀ k, k < N → parseFieldDescriptor (T k).2.2.1 = some (ty0 k)) (hnm : ∀ a, a < N → ∀ b, b < N → a ≠ b → (T a).2.1 ≠ (T b).2.1) (hk : k < N) (hT : (T k).1 = C ∧ (T k).2.2.2 = true ∧ (∀ a, narrow (ty0 k) (.ref a) = .ref a) ∧ ∀ a, fits (ty0 k) (.ref a) = true) (hy : (mj_y d).cls = C ∧ (mj_y d).name = "<init>") (hl : Cond.fieldLink (mj_y d).cls idx C (T k).2.1 (T k).2.2.1 ∈ wsL_law) (hr : mj_rk t k = true) (ht : t < 11) : mj_S d pc (oPutR (t, N) k) := by
  intro p l e s m args below meth c E post hC L st M z K h hK h1 h2 H locs ls hH hS hL
  unfold oPutR at h
  split at h
  · rename_i r o rest
    obtain ⟨g1, g2, h⟩ := h
    obtain ⟨hP, hz, hM⟩ := hH
    have ha := mj_ad_lt (E := E) g2 hM
    show W p l e _ s m args below meth c H locs z.1 z.2 _ (F0 m pc ls (.ref (mj_ad E r) :: .ref (mj_ad E o) :: rest.map (mj_cv E)))
    rw [ha]
    refine mj_putF hC.1 hC.2.1 hC.2.2.2.2.1 hin ty0 hty hnm hC.2.2.2.1 hC.2.2.2.2.2.2.2.2.1.1 hP mj_ws_D hS o ((mj_ws_at g2).trans (by rw [mj_ce_ob g1 ht])) hc k hk (hC.2.2.2.2.1 _ hl) (fun x hx => by rw [hT.1] at hx; exact hx) hT.2.1 (hC.2.2.2.2.2.2.2.1.trans hy.2) (hT.1.trans hy.1.symm) (hty k hk) (hT.2.2.1 _) (hT.2.2.2 _) (by simpa using hk) hdg ?_
    exact fun H1 locs1 hz1 hP1 hS1 => hK _ _ _ _ _ h h1 h2 H1 locs1 ls ⟨mj_putFH (x := some r) g1 g2 ht hk hr hP1, hz1.trans hz, hM⟩ hS1 hL
  · exact h.elim
end MJM
end
section
section MJA
variable {d : mj_D} {pc : Nat}
theorem mj_vin {i : Int32} {n : Nat} (h : vp_in i n) : i.toNatClampNeg < n := Nat.not_le.mp fun q => h (Or.inr q)
theorem sIald (hdg : decode (mj_cc d) pc = .ok (.iaload, 1)) : mj_S d pc oIald := by
  intro p l e s m args below meth c E post hC L st M z K h hK h1 h2 H locs ls hH hS hL
  unfold oIald at h
  split at h
  · rename_i i o rest
    obtain ⟨g1, g2, g3, h⟩ := h
    obtain ⟨hP, hz, hM⟩ := hH
    have ha := mj_ad_lt (E := E) g2 hM
    show W p l e _ s m args below meth c H locs z.1 z.2 _ (F0 m pc ls (.int i :: .ref (mj_ad E o) :: rest.map (mj_cv E)))
    rw [ha]
    refine va_iald hC.1 hC.2.1 hC.2.2.2.2.2.2.2.2.1.1 hP o 0 ((mj_ws_at g2).trans (by rw [mj_ce_int g1 (by decide) (by decide)])) rfl g3 hdg ?_
    exact hK _ _ _ _ _ h h1 h2 H locs ls ⟨hP, hz, hM⟩ hS hL
  · exact h.elim
theorem sZald (hdg : decode (mj_cc d) pc = .ok (.baload, 1)) : mj_S d pc oZald := by
  intro p l e s m args below meth c E post hC L st M z K h hK h1 h2 H locs ls hH hS hL
  unfold oZald at h
  split at h
  · rename_i i o rest
    obtain ⟨g1, g2, g3, h⟩ := h
    obtain ⟨hP, hz, hM⟩ := hH
    have ha := mj_ad_lt (E := E) g2 hM
    show W p l e _ s m args below meth c H locs z.1 z.2 _ (F0 m pc ls (.int i :: .ref (mj_ad E o) :: rest.map (mj_cv E)))
    rw [ha]
    refine va_zald hC.1 hC.2.1 hC.2.2.2.2.2.2.2.2.1.1 hP o 1 ((mj_ws_at g2).trans (by rw [mj_ce_int g1 (by decide) (by decide)])) rfl g3 hdg ?_
    exact hK _ _ _ _ _ h h1 h2 H locs ls ⟨hP, hz, hM⟩ hS hL
  · exact h.elim
theorem sAald {t : Nat} {C : String} (hdg : decode (mj_cc d) pc = .ok (.aaload, 1)) (h13 : 13 ≤ t) (hty : ∀ E : mj_E, (mj_ty E)[t - 11]? = some (E.2.1 (t - 11), .object C)) : mj_S d pc (oAald t) := by
  intro p l e s m args below meth c E post hC L st M z K h hK h1 h2 H locs ls hH hS hL
  unfold oAald at h
  split at h
  · rename_i i o rest
    obtain ⟨g1, g2, g3, h⟩ := h
    obtain ⟨hP, hz, hM⟩ := hH
    have ha := mj_ad_lt (E := E) g2 hM
    show W p l e _ s m args below meth c H locs z.1 z.2 _ (F0 m pc ls (.int i :: .ref (mj_ad E o) :: rest.map (mj_cv E)))
    rw [ha]
    refine va_aldq hC.1 hC.2.1 hC.2.2.2.2.2.2.2.2.1.1 hP o (t - 11) ((mj_ws_at g2).trans (by rw [mj_ce_ref g1 h13])) (hty E) g3 hdg ?_
    exact hK _ _ _ _ _ h h1 h2 H locs ls ⟨hP, hz, hM⟩ hS hL
  · exact h.elim
theorem mj_iastH {E : mj_E} {M : mj_M} {o t i : Nat} {x : Int32} {H1 : Heap} (g1 : (mj_sh o).1 = t) (ht : 11 ≤ t) (ht2 : t < 13) (g2 : o < M.1)
    (hP : va_P E.1 vwCl ((mj_ws E M).set o (E.2.2.1 + o, .inl (E.2.1 (t - 11), (mj_sh o).2, .inl (upd (M.2.2 o) i x)))) H1) : va_P E.1 vwCl (mj_ws E (M.1, M.2.1, mj_up M.2.2 o i x)) H1 := by
  rw [mj_ws_set (E := E) (M := M) (M' := (M.1, M.2.1, mj_up M.2.2 o i x)) (e := .inl (E.2.1 (t - 11), (mj_sh o).2, .inl (upd (M.2.2 o) i x))) rfl g2 (by rw [mj_ce_int g1 ht ht2]; simp only [mj_up_eq]) (fun q hq => mj_ce_up hq)] at hP
  exact hP
theorem sIast (hdg : decode (mj_cc d) pc = .ok (.iastore, 1)) : mj_S d pc oIast := by
  intro p l e s m args below meth c E post hC L st M z K h hK h1 h2 H locs ls hH hS hL
  unfold oIast at h
  split at h
  · rename_i x i o rest
    obtain ⟨g1, g2, g3, h⟩ := h
    obtain ⟨hP, hz, hM⟩ := hH
    have ha := mj_ad_lt (E := E) g2 hM
    show W p l e _ s m args below meth c H locs z.1 z.2 _ (F0 m pc ls (.int x :: .int i :: .ref (mj_ad E o) :: rest.map (mj_cv E)))
    rw [ha]
    have hcell : (mj_ws E M)[o]? = some (E.2.2.1 + o, .inl (E.2.1 0, (mj_sh o).2, .inl (M.2.2 o))) := (mj_ws_at g2).trans (by rw [mj_ce_int g1 (by decide) (by decide)])
    have hKt := (hC.2.2.2.2.2.2.2.2.1.1.2 0 _ rfl).1
    refine W.iast hC.1 hC.2.1 (hP o _ hcell) (hKt (mj_sh o).2 (fun j => .int (M.2.2 o j))) (fun q => by cases q) (by show ¬ (i < 0 ∨ (arrV _ _ _).slots.size ≤ _); rw [arrV_size]; exact g3) rfl rfl hdg fun H1 e z1 oq => ?_
    refine hK _ _ _ _ _ h h1 h2 H1 _ ls ⟨mj_iastH (t := 11) g1 (by decide) (by decide) g2 (hP.set mj_ws_D hcell ?_ oq), z1.trans hz, hM⟩ (hS.put z1 oq (mj_ws_D.2 o _ hcell)) hL
    show H1[_]? = some (vp_cell _ _)
    rw [e]
    rw [vp_cell_i, vp_cell_i, arrV_store]
    congr 2
    funext q
    by_cases hq : q = i.toNatClampNeg
    · subst hq
      simp [updV, upd]
    · simp [updV, upd, hq]
  · exact h.elim
theorem sZast (hdg : decode (mj_cc d) pc = .ok (.bastore, 1)) : mj_S d pc oZast := by
  intro p l e s m args below meth c E post hC L st M z K h hK h1 h2 H locs ls hH hS hL
  unfold oZast at h
  split at h
  · rename_i x i o rest
    obtain ⟨g1, g2, g3, g4, h⟩ := h
    obtain ⟨hP, hz, hM⟩ := hH
    have ha := mj_ad_lt (E := E) g2 hM
    show W p l e _ s m args below meth c H locs z.1 z.2 _ (F0 m pc ls (.int x :: .int i :: .ref (mj_ad E o) :: rest.map (mj_cv E)))
    rw [ha]
    have hcell : (mj_ws E M)[o]? = some (E.2.2.1 + o, .inl (E.2.1 1, (mj_sh o).2, .inl (M.2.2 o))) := (mj_ws_at g2).trans (by rw [mj_ce_int g1 (by decide) (by decide)])
    have hKt := (hC.2.2.2.2.2.2.2.2.1.1.2 1 _ rfl).1
    have hn : vp_nar .boolean x = x := by rcases g4 with rfl | rfl <;> rfl
    refine W.zast hC.1 hC.2.1 (hP o _ hcell) (hKt (mj_sh o).2 (fun j => .int (M.2.2 o j))) (fun q => by cases q) (by show ¬ (i < 0 ∨ (arrV _ _ _).slots.size ≤ _); rw [arrV_size]; exact g3) rfl rfl hdg fun H1 e z1 oq => ?_
    refine hK _ _ _ _ _ h h1 h2 H1 _ ls ⟨mj_iastH (t := 12) g1 (by decide) (by decide) g2 (hP.set mj_ws_D hcell ?_ oq), z1.trans hz, hM⟩ (hS.put z1 oq (mj_ws_D.2 o _ hcell)) hL
    show H1[_]? = some (vp_cell _ _)
    rw [e]
    rw [vp_cell_i, vp_cell_i, arrV_store]
    congr 2
    funext q
    by_cases hq : q = i.toNatClampNeg
    · subst hq
      simp [updV, upd]
      rcases g4 with rfl | rfl <;> rfl
    · simp [updV, upd, hq]
  · exact h.elim
theorem sLen (hdg : decode (mj_cc d) pc = .ok (.arraylength, 1)) : mj_S d pc oLen := by
  intro p l e s m args below meth c E post hC L st M z K h hK h1 h2 H locs ls hH hS hL
  unfold oLen at h
  split at h
  · rename_i o rest
    obtain ⟨g1, g3, g2, h⟩ := h
    obtain ⟨hP, hz, hM⟩ := hH
    have ha := mj_ad_lt (E := E) g2 hM
    show W p l e _ s m args below meth c H locs z.1 z.2 _ (F0 m pc ls (.ref (mj_ad E o) :: rest.map (mj_cv E)))
    rw [ha]
    have hc : ∃ x : vp_A, x.1 = (mj_sh o).2 ∧ (mj_ws E M)[o]? = some (E.2.2.1 + o, .inl (E.2.1 ((mj_sh o).1 - 11), x)) := by
      rw [mj_ws_at g2]
      by_cases h13 : (mj_sh o).1 < 13
      · exact ⟨((mj_sh o).2, .inl (M.2.2 o)), rfl, by rw [mj_ce_int rfl g1 h13]⟩
      · exact ⟨((mj_sh o).2, .inr (.inr (.inr (.inr (fun j => (M.2.1 o j).map (mj_ad E)))))), rfl, by rw [mj_ce_ref rfl (by omega)]⟩
    obtain ⟨x, hx, hcell⟩ := hc
    have ht : ∃ ty, (mj_ty E)[(mj_sh o).1 - 11]? = some (E.2.1 ((mj_sh o).1 - 11), ty) := by
      generalize (mj_sh o).1 = t at g1 g3
      have : t = 11 ∨ t = 12 ∨ t = 13 ∨ t = 14 ∨ t = 15 := by omega
      rcases this with rfl | rfl | rfl | rfl | rfl <;> exact ⟨_, rfl⟩
    obtain ⟨ty, ht⟩ := ht
    refine va_alen hC.1 hC.2.1 hC.2.2.2.2.2.2.2.2.1.1 hP o ((mj_sh o).1 - 11) hcell ht (v := Int32.ofNat (mj_sh o).2) (by rw [hx]) hdg ?_
    exact hK _ _ _ _ _ h h1 h2 H locs ls ⟨hP, hz, hM⟩ hS hL
  · exact h.elim
/-! ends -/
theorem sRetI (hdg : decode (mj_cc d) pc = .ok (.ireturn, 1)) (hr : mj_rt d = some .int) : mj_S d pc oRetI := by
  intro p l e s m args below meth c E post hC L st M z K h hK h1 h2 H locs ls hH hS hL
  unfold oRetI at h
  split at h
  · rename_i x
    refine W.widen h1 h2 ?_
    exact W.iret hC.1 hC.2.1 (hC.2.2.2.2.2.1.trans hr) (fun t ht hW => ⟨⟨some (.inl x), M, rfl, h, by rw [ht]; exact hH⟩, hS.F ht⟩) (fun q hq => hS.2.2 q hq) hdg hC.2.2.2.2.2.2.1
  · exact h.elim
theorem sRetZ (hdg : decode (mj_cc d) pc = .ok (.ireturn, 1)) (hr : mj_rt d = some .boolean) : mj_S d pc oRetZ := by
  intro p l e s m args below meth c E post hC L st M z K h hK h1 h2 H locs ls hH hS hL
  unfold oRetZ at h
  split at h
  · rename_i x
    obtain ⟨g, h⟩ := h
    refine W.widen h1 h2 ?_
    exact W.zret hC.1 hC.2.1 (hC.2.2.2.2.2.1.trans hr) (by rcases g with rfl | rfl <;> rfl) (fun t ht hW => ⟨⟨some (.inl x), M, rfl, h, by rw [ht]; exact hH⟩, hS.F ht⟩) (fun q hq => hS.2.2 q hq) hdg hC.2.2.2.2.2.2.1
  · exact h.elim
theorem sRetV (hdg : decode (mj_cc d) pc = .ok (.return_, 1)) (hr : mj_rt d = none) : mj_S d pc oRetV := by
  intro p l e s m args below meth c E post hC L st M z K h hK h1 h2 H locs ls hH hS hL
  unfold oRetV at h
  split at h
  · refine W.widen h1 h2 ?_
    exact W.vret hC.1 hC.2.1 (hC.2.2.2.2.2.1.trans hr) (fun t ht hW => ⟨⟨none, M, rfl, h, by rw [ht]; exact hH⟩, hS.F ht⟩) (fun q hq => hS.2.2 q hq) hdg hC.2.2.2.2.2.2.1
  · exact h.elim
theorem sRetA {n : String} (hdg : decode (mj_cc d) pc = .ok (.areturn, 1)) (hr : mj_rt d = some (.object n)) : mj_S d pc oRetA := by
  intro p l e s m args below meth c E post hC L st M z K h hK h1 h2 H locs ls hH hS hL
  unfold oRetA at h
  split at h
  · rename_i r
    refine W.widen h1 h2 ?_
    exact W.aret (v := mj_cv E (.inr r)) hC.1 hC.2.1 (hC.2.2.2.2.2.1.trans hr) (Or.inl ⟨n, rfl⟩) (by cases r with
      | none => exact Or.inl rfl
      | some a => exact Or.inr ⟨_, rfl⟩) (fun t ht hW => ⟨⟨some (.inr r), M, rfl, h, by rw [ht]; exact hH⟩, hS.F ht⟩) (fun q hq => hS.2.2 q hq) hdg hC.2.2.2.2.2.2.1
  · exact h.elim
/-! calls -/
def mj_sp : Nat → List mj_V → Option (List mj_V × List mj_V)
  | 0, st => some ([], st)
  | n + 1, a :: st => match mj_sp n st with
    | some (as, r) => some (as ++ [a], r)
    | none => none
  | _ + 1, [] => none
theorem mj_sp_eq : ∀ (n : Nat) (st as r : List mj_V), mj_sp n st = some (as, r) → st = as.reverse ++ r ∧ as.length = n
  | 0, st, as, r, h => by cases h; exact ⟨rfl, rfl⟩
  | n + 1, [], as, r, h => by cases h
  | n + 1, a :: st, as, r, h => by
    simp only [mj_sp] at h
    split at h
    · rename_i as' r' hs
      cases h
      obtain ⟨h1, h2⟩ := mj_sp_eq n st as' r hs
      exact ⟨by simp [h1], by simp [h2]⟩
    · cases h
def oCV (n : Nat) (t : Nat × Nat) (d' : mj_D) : mj_O := fun pc L st M z K _ => match mj_sp n st with
  | some (as, .inr (some o) :: rest) => mj_sh o = t ∧ o < M.1 ∧ rest.length ≤ 8 ∧ ∃ post, mj_R d' (.inr (some o) :: as) M post ∧ ∀ r M', post r M' → K (pc + 3) L (r.toList ++ rest) M' z
  | _ => False
def oCS (n : Nat) (d' : mj_D) : mj_O := fun pc L st M z K _ => match mj_sp n st with
  | some (as, rest) => rest.length ≤ 8 ∧ ∃ post, mj_R d' as M post ∧ ∀ r M', post r M' → K (pc + 3) L (r.toList ++ rest) M' z
  | _ => False
def oCI (n : Nat) (d' : mj_D) (bc bs : Nat) : mj_O := fun pc L st M z K _ => match mj_sp n st with
  | some (as, .inr (some o) :: rest) => rest.length ≤ 8 ∧ z.1 + mj_mc d' ≤ bc ∧ z.2 + mj_ms d' ≤ bs ∧ ∃ post, mj_R d' (.inr (some o) :: as) M post ∧ ∀ r M', post r M' → K (pc + 3) L (r.toList ++ rest) M' (z.1 + mj_mc d', z.2 + mj_ms d')
  | _ => False
theorem mj_blind {E : mj_E} {as : List mj_V} {M : mj_M} : FrameBlind (va_Pc (as.map (mj_cv E)) (mj_W E M)) := by
  intro a U g mk h
  obtain ⟨h1, h2, h3, h4⟩ := h
  exact ⟨h1, h2, mj_K.moved (u := U) (U := U.calling g mk a) (Vm.Alike.refl U.vm) h3, (show mj_X E (U.calling g mk a) U.heap from mj_X.same (u := U) (U := U.calling g mk a) rfl h4)⟩
theorem mj_WU {p : Program} {l : Launch} {e : Env} {s : State} {m : MethodId} {args : Array Value} {below : List Frame} {meth : Method} {c : Code} {E : mj_E} (hC : mj_C p l e s m args below meth c E d) {M : mj_M} {H : Heap} {locs : List Loc} (hH : mj_H E M H) (hS : va_S (mj_A E) s.heap H locs) (U : State) (hU : U.heap = H) (hW : s.WarmedH U.vm) : mj_W E M U := by
  refine ⟨by rw [hU]; exact hH, mj_K.moved hW.alike hC.2.2.2.2.2.2.2.2.1, mj_X.moved hW ?_⟩
  rw [hU]
  exact hC.2.2.2.2.2.2.2.2.2.1.kept hS.2.1
theorem mj_go {p : Program} {l : Launch} {e : Env} {R : Room} {s : State} {m : MethodId} {args : Array Value} {below : List Frame} {meth : Method} {c : Code} {E : mj_E} {H : Heap} {locs : List Loc} {cells slots mc ms : Nat} {Q : State → Prop} {ls : Array Slot} {st0 rest : List Value} {a : Array Value} {post : Option mj_V → mj_M → Prop} {H0 : Heap}
    (hr : va_Run p l e R s m args below meth c H locs cells slots mc ms (F0 m pc ls st0) rest (mj_Q E post a) (mj_A E)) (hS : va_S (mj_A E) H0 H locs)
    (kk : ∀ (r : Option mj_V) (M' : mj_M) (H1 : Heap) (locs1 : List Loc), post r M' → mj_H E M' H1 → va_S (mj_A E) H0 H1 locs1 → W p l e R s m args below meth c H1 locs1 (cells + mc) (slots + ms) Q (F0 m (pc + 3) ls ((r.map (mj_cv E)).toList ++ rest))) : W p l e R s m args below meth c H locs cells slots Q (F0 m pc ls st0) := by
  intro T hT X
  obtain ⟨v, st₀, t, T', L, h0, X', hL, e1, e2, ⟨⟨r, M', hv, hp, hH'⟩, hz, hk⟩, st⟩ := hr T hT X
  have hv' : v = r.map (mj_cv E) := Outcome.returned.inj hv
  subst hv'
  rw [h0] at hz hk
  obtain ⟨t2, a1, b1⟩ := kk r M' T'.heap (locs ++ L) hp (by rw [e1]; exact hH')
    ⟨Nat.le_trans hS.1 (by rw [e1]; exact hz), fun q h1 h2 => by rw [e1, hk q (Nat.lt_of_lt_of_le h1 hS.1) h2]; exact hS.2.1 q h1 h2, fun q hq => by
      rcases List.mem_append.mp hq with h | h
      · exact hS.2.2 q h
      · exact hL q h⟩ T' rfl X'
  exact ⟨t2, st t2 a1, b1⟩
theorem mj_sum (E : mj_E) : ∀ (rest : List mj_V), ((rest.map (mj_cv E)).map fun v => v.category).sum = rest.length
  | [] => rfl
  | a :: rest => by
    have h := mj_sum E rest
    simp only [List.map_cons, List.sum_cons, List.length_cons, mj_cat, h]
    omega
theorem mj_tl (E : mj_E) (r : Option mj_V) (rest : List mj_V) : (r.map (mj_cv E)).toList ++ rest.map (mj_cv E) = (r.toList ++ rest).map (mj_cv E) := by cases r <;> rfl
theorem mj_rev (E : mj_E) (as rest : List mj_V) : (as.reverse ++ rest).map (mj_cv E) = (as.map (mj_cv E)).reverse ++ rest.map (mj_cv E) := by simp
theorem sCV {idx n t N : Nat} {d' : mj_D} {C : String} {T : u_T} (hdg : decode (mj_cc d) pc = .ok (.invokevirtual idx, 3)) (hc : vwCl[t]? = some (C, T, N)) (ht : t < 11)
    (m1 : Cond.methodLink (mj_y d).cls idx (mj_y d') ∈ wsL_law) (m2 : Cond.instanceMethod (mj_y d') ∈ wsL_law) (m3 : Cond.selects C (mj_y d') (mj_y d') ∈ wsL_law) (m4 : Cond.initialized C ∈ wsL_law) (m5 : Cond.code (mj_y d') (mj_cc d') (mj_nl d') (mj_rt d') ∈ wsL_law)
    (hd : (mj_y d').cls = C ∧ (mj_y d').cls ≠ "java/lang/invoke/MethodHandle" ∧ (mj_y d').cls ≠ "java/lang/invoke/VarHandle" ∧ (parseMethodDescriptor (mj_y d').desc).map (fun q => q.parameters.length) = some n)
    (hR : mj_fr d' + 1 ≤ mj_fr d ∧ 8 + (mj_nl d' + 11) + mj_lo d' ≤ mj_lo d) (hm : mj_mc d' = 0 ∧ mj_ms d' = 0) : mj_S d pc (oCV n (t, N) d') := by
  intro p l e s m args below meth c E post hC L st M z K h hK h1 h2 H locs ls hH hS hL
  unfold oCV at h
  split at h
  · rename_i as o rest hsp
    obtain ⟨g1, g2, g3, post', hM, h⟩ := h
    obtain ⟨rfl, hlen⟩ := mj_sp_eq _ _ _ _ hsp
    have ha := mj_ad_lt (E := E) g2 hH.2.2
    rw [mj_rev]
    have hcw : CallW (mj_rm d) s args (mj_y d).cls C idx (mj_y d') (mj_cc d') (mj_nl d') (mj_rt d') (Cond.code (mj_y d') (mj_cc d') (mj_nl d') (mj_rt d') :: wsL_law) (mj_rm d') (mj_mc d') (mj_ms d') n :=
      cwV n hC.2.2.2.2.1 (wsL_gi (by
        intro w hw
        rcases List.mem_append.mp hw with hw | hw
        · simp only [List.mem_cons, List.not_mem_nil, or_false] at hw
          rcases hw with rfl | rfl | rfl | rfl
          · exact m1
          · exact m2
          · exact m3
          · exact m4
        · rcases List.mem_cons.mp hw with rfl | hw
          · exact m5
          · exact hw)) rfl rfl rfl hd hR
    have hrun := va_runV (p := p) (l := l) (e := e) (below := below) (meth := meth) (H := H) (locs := locs) (cells := z.1) (slots := z.2) (g := F0 m pc ls ((as.map (mj_cv E)).reverse ++ .ref (E.2.2.1 + o) :: rest.map (mj_cv E))) (b := E.2.2.1 + o) (As := as.map (mj_cv E)) (rest := rest.map (mj_cv E)) (cc := mj_cc d) (nL := mj_nl d) (Ts := wsL_law) ⟨hC.1, hC.2.1, hC.2.2.1, hC.2.2.2.1, hC.2.2.2.2.1⟩ (hM l E) hcw
      ⟨mj_blind, va_recv hC.2.2.2.2.2.2.2.2.1.1 hH.1 hc ((mj_ws_at g2).trans (by rw [mj_ce_ob g1 ht])), fun U hU hW => ⟨by show _ = ((mj_cv E (.inr (some o))) :: as.map (mj_cv E)).toArray; rw [mj_cvr, ha], mj_WU hC hH hS U hU hW⟩⟩
      rfl (by simpa using hlen) (hL.2.1) rfl (lv_room (by rw [mj_sum]; exact g3)) hdg ⟨by rw [hm.1]; exact h1, by rw [hm.2]; exact h2⟩
    have hst : (mj_cv E (.inr (some o))) = Value.ref (E.2.2.1 + o) := by rw [mj_cvr, ha]
    show W p l e _ s m args below meth c H locs z.1 z.2 _ (F0 m pc ls ((as.map (mj_cv E)).reverse ++ (mj_cv E (.inr (some o))) :: rest.map (mj_cv E)))
    rw [hst]
    refine mj_go hrun hS (fun r M' H1 locs1 hp hH1 hS1 => ?_)
    rw [mj_tl, hm.1, hm.2]
    exact hK _ _ _ _ _ (h r M' hp) h1 h2 H1 locs1 ls hH1 hS1 hL
  · exact h.elim
theorem sCS {idx n : Nat} {d' : mj_D} (hdg : decode (mj_cc d) pc = .ok (.invokestatic idx, 3))
    (m1 : Cond.methodLink (mj_y d).cls idx (mj_y d') ∈ wsL_law) (m2 : Cond.static (mj_y d') ∈ wsL_law) (m4 : Cond.initialized (mj_y d').cls ∈ wsL_law) (m5 : Cond.code (mj_y d') (mj_cc d') (mj_nl d') (mj_rt d') ∈ wsL_law)
    (hd : (mj_y d').cls ≠ "java/lang/invoke/MethodHandle" ∧ (mj_y d').cls ≠ "java/lang/invoke/VarHandle" ∧ (parseMethodDescriptor (mj_y d').desc).map (fun q => q.parameters.length) = some n)
    (hR : mj_fr d' + 1 ≤ mj_fr d ∧ 8 + (mj_nl d' + 11) + mj_lo d' ≤ mj_lo d) (hm : mj_mc d' = 0 ∧ mj_ms d' = 0) : mj_S d pc (oCS n d') := by
  intro p l e s m args below meth c E post hC L st M z K h hK h1 h2 H locs ls hH hS hL
  unfold oCS at h
  split at h
  · rename_i as rest hsp
    obtain ⟨g3, post', hM, h⟩ := h
    obtain ⟨rfl, hlen⟩ := mj_sp_eq _ _ _ _ hsp
    rw [mj_rev]
    have hcb : CallB (mj_rm d) s args (mj_y d).cls idx (mj_y d') (mj_cc d') (mj_nl d') (mj_rt d') (Cond.code (mj_y d') (mj_cc d') (mj_nl d') (mj_rt d') :: wsL_law) (mj_rm d') (mj_mc d') (mj_ms d') n :=
      callB_of n hC.2.2.2.2.1 (wsL_gi (by
        intro w hw
        rcases List.mem_cons.mp hw with rfl | hw
        · exact m5
        · exact hw)) rfl rfl rfl (hC.2.2.2.2.1 _ m4) (hC.2.2.2.2.1 _ m1) hd hR
    have hrun := va_runS (p := p) (l := l) (e := e) (below := below) (meth := meth) (H := H) (locs := locs) (cells := z.1) (slots := z.2) (g := F0 m pc ls ((as.map (mj_cv E)).reverse ++ rest.map (mj_cv E))) (As := as.map (mj_cv E)) (rest := rest.map (mj_cv E)) (cc := mj_cc d) (nL := mj_nl d) (Ts := wsL_law) ⟨hC.1, hC.2.1, hC.2.2.1, hC.2.2.2.1, hC.2.2.2.2.1⟩ (hM l E) ⟨hcb, hC.2.2.2.2.1 _ m2⟩
      ⟨mj_blind, fun U hU hW => ⟨rfl, mj_WU hC hH hS U hU hW⟩⟩
      rfl (by simpa using hlen) (hL.2.1) rfl (lv_room (by rw [mj_sum]; exact g3)) hdg ⟨by rw [hm.1]; exact h1, by rw [hm.2]; exact h2⟩
    refine mj_go hrun hS (fun r M' H1 locs1 hp hH1 hS1 => ?_)
    rw [mj_tl, hm.1, hm.2]
    exact hK _ _ _ _ _ (h r M' hp) h1 h2 H1 locs1 ls hH1 hS1 hL
  · exact h.elim
theorem sCI {idx n : Nat} {d' : mj_D} {bc bs : Nat} (hdg : decode (mj_cc d) pc = .ok (.invokespecial idx, 3)) (hb : bc = mj_mc d ∧ bs = mj_ms d)
    (m1 : Cond.methodLink (mj_y d).cls idx (mj_y d') ∈ wsL_law) (m2 : Cond.instanceMethod (mj_y d') ∈ wsL_law) (m4 : Cond.initialized (mj_y d').cls ∈ wsL_law) (m5 : Cond.code (mj_y d') (mj_cc d') (mj_nl d') none ∈ wsL_law) (hret : mj_rt d' = none) (hn : (mj_y d').name = "<init>")
    (hd : (mj_y d').cls ≠ "java/lang/invoke/MethodHandle" ∧ (mj_y d').cls ≠ "java/lang/invoke/VarHandle" ∧ (parseMethodDescriptor (mj_y d').desc).map (fun q => q.parameters.length) = some n)
    (hR : mj_fr d' + 1 ≤ mj_fr d ∧ 8 + (mj_nl d' + 11) + mj_lo d' ≤ mj_lo d) : mj_S d pc (oCI n d' bc bs) := by
  intro p l e s m args below meth c E post hC L st M z K h hK h1 h2 H locs ls hH hS hL
  unfold oCI at h
  split at h
  · rename_i as o rest hsp
    obtain ⟨g3, g4, g5, post', hM, h⟩ := h
    obtain ⟨rfl, hlen⟩ := mj_sp_eq _ _ _ _ hsp
    rw [mj_rev]
    have hMM := hM l E
    rw [hret] at hMM
    have hcb : CallB (mj_rm d) s args (mj_y d).cls idx (mj_y d') (mj_cc d') (mj_nl d') none (Cond.code (mj_y d') (mj_cc d') (mj_nl d') none :: wsL_law) (mj_rm d') (mj_mc d') (mj_ms d') n :=
      callB_of n hC.2.2.2.2.1 (wsL_gi (by
        intro w hw
        rcases List.mem_cons.mp hw with rfl | hw
        · exact m5
        · exact hw)) rfl rfl rfl (hC.2.2.2.2.1 _ m4) (hC.2.2.2.2.1 _ m1) hd hR
    have hrun := va_runI (p := p) (l := l) (e := e) (below := below) (meth := meth) (H := H) (locs := locs) (cells := z.1) (slots := z.2) (g := F0 m pc ls ((as.map (mj_cv E)).reverse ++ .ref (mj_ad E o) :: rest.map (mj_cv E))) (b := mj_ad E o) (As := as.map (mj_cv E)) (rest := rest.map (mj_cv E)) (cc := mj_cc d) (nL := mj_nl d) (Ts := wsL_law) ⟨hC.1, hC.2.1, hC.2.2.1, hC.2.2.2.1, hC.2.2.2.2.1⟩ hMM ⟨hcb, hn, hC.2.2.2.2.1 _ m2⟩
      ⟨mj_blind, fun U hU hW => ⟨rfl, mj_WU hC hH hS U hU hW⟩⟩
      rfl (by simpa using hlen) (hL.2.1) rfl (lv_room (by rw [mj_sum]; exact g3)) hdg ⟨by rw [hb.1] at g4; exact g4, by rw [hb.2] at g5; exact g5⟩
    show W p l e _ s m args below meth c H locs z.1 z.2 _ (F0 m pc ls ((as.map (mj_cv E)).reverse ++ (mj_cv E (.inr (some o))) :: rest.map (mj_cv E)))
    rw [mj_cvr]
    refine mj_go hrun hS (fun r M' H1 locs1 hp hH1 hS1 => ?_)
    rw [mj_tl]
    exact hK _ _ _ _ _ (h r M' hp) (by rw [hb.1] at g4; exact g4) (by rw [hb.2] at g5; exact g5) H1 locs1 ls hH1 hS1 hL
  · exact h.elim
end MJA
end
section
def mj_J (d : mj_D) (post : Option mj_V → mj_M → Prop) (pc : Nat) (L : List (Option mj_V)) (st : List mj_V) (M : mj_M) (z : Nat × Nat) : Prop :=
  ∀ (p : Program) (l : Launch) (e : Env) (s : State) (m : MethodId) (args : Array Value) (below : List Frame) (meth : Method) (c : Code) (E : mj_E), mj_C p l e s m args below meth c E d → mj_G p l e s m args below meth c E d post pc L st M z
theorem mj_run {d : mj_D} {post : Option mj_V → mj_M → Prop} {T : Nat → mj_O} (hT : ∀ pc, mj_S d pc (T pc)) (stop : Nat → Bool) (n : Nat) {pc : Nat} {L : List (Option mj_V)} {st : List mj_V} {M : mj_M} {z : Nat × Nat}
    (h : mj_bk T stop n pc L st M z (fun pc' L' st' M' z' => mj_J d post pc' L' st' M' z') (mj_Z d post)) : mj_J d post pc L st M z :=
  fun p l e s m args below meth c E hC => mj_bk_sound hT stop hC (K := fun pc' L' st' M' z' => mj_J d post pc' L' st' M' z') (fun _ _ _ _ _ h' => h' p l e s m args below meth c E hC) n pc L st M z rfl h
theorem mj_args (E : mj_E) : ∀ (as : List mj_V) (i : Nat) (k : Nat) (v : mj_V) (j : Nat), (as.map some ++ List.replicate k none)[j]? = some (some v) → (i + j, mj_cv E v) ∈ lv_args i (as.map (mj_cv E))
  | [], i, k, v, j, h => by
    rw [List.map_nil, List.nil_append] at h
    rw [List.getElem?_replicate] at h
    split at h
    · cases h
    · cases h
  | a :: as, i, k, v, 0, h => by
    simp only [List.map_cons, List.cons_append, List.getElem?_cons_zero] at h
    cases h
    simp [lv_args]
  | a :: as, i, k, v, j + 1, h => by
    simp only [List.map_cons, List.cons_append, List.getElem?_cons_succ] at h
    have h1 := mj_args E as (i + 1) k v j h
    have hc := mj_cat E a
    simp only [List.map_cons, lv_args, hc]
    refine List.mem_cons_of_mem _ ?_
    rw [show i + (j + 1) = i + 1 + j by omega]
    exact h1
theorem mj_slen (E : mj_E) : ∀ as : List mj_V, (lg_sl (as.map (mj_cv E))).length = as.length
  | [] => rfl
  | a :: as => by
    have h := mj_slen E as
    have hc := mj_cat E a
    simp only [lg_sl, List.map_cons, List.flatMap_cons, hc, List.length_append, List.length_cons] at h ⊢
    simp only [h]
    simp
    omega
def mj_en (as : List mj_V) (n : Nat) : List (Option mj_V) := as.map some ++ List.replicate (n - as.length) none
theorem mj_enter {d : mj_D} {as : List mj_V} {M : mj_M} {post : Option mj_V → mj_M → Prop} (hy : plainName (mj_y d).cls = true) (hn : as.length ≤ mj_nl d) (h : mj_J d post 0 (mj_en as (mj_nl d)) [] M (0, 0)) : mj_R d as M post := by
  intro l E
  refine Met.ofW (cc := mj_cc d) (maxL := mj_nl d) (ret := mj_rt d) hy rfl ?_
  intro p e s m args below meth c s₁ B hml hv
  obtain ⟨rfl, hH, hK, hX⟩ := hv
  have hts : ∀ w ∈ wsL_law, w.before (as.map (mj_cv E)).toArray s = true := fun w hw => atoms_spec (ws := .code (mj_y d) (mj_cc d) (mj_nl d) (mj_rt d) :: wsL_law) B.pre w (List.mem_cons_of_mem _ hw)
  have hC : mj_C p l e s m (as.map (mj_cv E)).toArray below meth c E d := ⟨B.exec, B.bytes, hml, findClass_of_methodNamed B.named, hts, B.returns, B.notSynchronized, (name_of_methodNamed B.named B.method).1, hK, hX, by rw [hH.2.1]; omega⟩
  rw [lg_entry_eq]
  have hl := lv_entry (as.map (mj_cv E)) (n := mj_nl d) (by rw [mj_slen]; exact hn)
  refine h p l e s m _ below meth c E hC (Nat.zero_le _) (Nat.zero_le _) s.heap [] _ hH va_S.rf ⟨?_, hl.1, hl.2.1, fun i v hi => ?_⟩
  · simp [mj_en]; omega
  · have h1 := mj_args E as 0 _ v i hi
    rw [Nat.zero_add] at h1
    exact hl.2.2 _ h1
section MJX
variable {d : mj_D} {pc : Nat}
theorem mj_sw_or {x : Int32} {k : Nat → Prop} {df : Nat} : ∀ (cs : List (Int32 × Nat)), mj_sw x k df cs → (∃ q ∈ cs, x = q.1 ∧ k q.2) ∨ ((∀ q ∈ cs, ¬ x = q.1) ∧ k df)
  | [], h => Or.inr ⟨fun q hq => absurd hq List.not_mem_nil, h⟩
  | q :: r, h => by
    by_cases hx : x = q.1
    · exact Or.inl ⟨q, List.mem_cons_self, hx, h.1 hx⟩
    · rcases mj_sw_or r (h.2 hx) with ⟨q', h1, h2⟩ | ⟨h1, h2⟩
      · exact Or.inl ⟨q', List.mem_cons_of_mem _ h1, h2⟩
      · refine Or.inr ⟨fun q' hq' => ?_, h2⟩
        rcases List.mem_cons.mp hq' with rfl | hq'
        · exact hx
        · exact h1 q' hq'
theorem sTsw {dflt lo hi : Int} {offs : Array Int} {len df : Nat} {cs : List (Int32 × Nat)} (hdg : decode (mj_cc d) pc = .ok (.tableswitch dflt lo hi offs, len)) (hdf : (pc : Int) + dflt = (df : Int))
    (h1 : ∀ q ∈ cs, ¬ q.1.toInt < lo ∧ ¬ hi < q.1.toInt ∧ offs[(q.1.toInt - lo).toNat]? = some ((q.2 : Int) - pc)) (h2 : ∀ i, i < (hi - lo + 1).toNat → ∃ q ∈ cs, q.1 = Int32.ofInt (lo + i)) : mj_S d pc (oSw cs df) := by
  intro p l e s m args below meth c E post hC L st M z K h hK z1 z2 H locs ls hH hS hL
  unfold oSw at h
  split at h
  · rename_i x rest
    rcases mj_sw_or cs h with ⟨q, hq, rfl, hk⟩ | ⟨hn, hk⟩
    · obtain ⟨g1, g2, g3⟩ := h1 q hq
      exact lv_tableIn hC.1 hC.2.1 hdg g1 g2 g3 (by omega) (hK _ _ _ _ _ hk z1 z2 H locs ls hH hS hL)
    · refine lv_tableOut hC.1 hC.2.1 hdg ?_ hdf (hK _ _ _ _ _ hk z1 z2 H locs ls hH hS hL)
      rcases Int.lt_or_le x.toInt lo with g | g
      · exact Or.inl g
      · refine Or.inr (Int.not_le.mp fun g2 => ?_)
        obtain ⟨q, hq, e⟩ := h2 (x.toInt - lo).toNat (by omega)
        refine hn q hq ?_
        rw [e, show lo + ((x.toInt - lo).toNat : Int) = x.toInt by omega, Int32.ofInt_toInt]
  · exact h.elim
theorem mj_lsw {x : Int32} {k : Nat → Prop} {df : Nat} {dflt : Int} (hdf : (pc : Int) + dflt = (df : Int)) : ∀ (ps : List (Int × Int)) (cs : List (Int32 × Nat)), cs.map (fun q => (q.1.toInt, (q.2 : Int) - pc)) = ps → mj_sw x k df cs → ∃ t : Nat, k t ∧ (pc : Int) + Op.lookupswitch.offset ps dflt x.toInt = (t : Int)
  | [], [], _, h => ⟨df, h, hdf⟩
  | [], _ :: _, e, _ => by cases e
  | _ :: _, [], e, _ => by cases e
  | (a, o) :: r, q :: cs, e, h => by
    simp only [List.map_cons, List.cons.injEq, Prod.mk.injEq] at e
    obtain ⟨⟨e1, e2⟩, e3⟩ := e
    rw [Op.lookupswitch.offset_cons]
    by_cases hx : x = q.1
    · refine ⟨q.2, h.1 hx, ?_⟩
      rw [if_pos (by rw [hx]; exact e1.symm)]
      omega
    · rw [if_neg (fun g => hx (Int32.toInt_inj.mp (by rw [e1]; exact g.symm)))]
      exact mj_lsw hdf r cs e3 (h.2 hx)
theorem sLsw {dflt : Int} {ps : Array (Int × Int)} {len df : Nat} {cs : List (Int32 × Nat)} (hdg : decode (mj_cc d) pc = .ok (.lookupswitch dflt ps, len)) (hdf : (pc : Int) + dflt = (df : Int)) (hp : (ps.toList.zip (ps.toList.drop 1)).all (fun (a, next) => a.1 < next.1) = true)
    (hcs : cs.map (fun q => (q.1.toInt, (q.2 : Int) - pc)) = ps.toList) : mj_S d pc (oSw cs df) := by
  intro p l e s m args below meth c E post hC L st M z K h hK z1 z2 H locs ls hH hS hL
  unfold oSw at h
  split at h
  · rename_i x rest
    obtain ⟨t, hk, ht⟩ := mj_lsw hdf ps.toList cs hcs h
    exact lv_lookup hC.1 hC.2.1 hdg hp rfl ht (hK _ _ _ _ _ hk z1 z2 H locs ls hH hS hL)
  · exact h.elim
theorem mj_adx (E : mj_E) (k : Nat) : mj_ad E (1000 + k) = E.2.2.2 k := by
  unfold mj_ad
  rw [if_neg (by omega), Nat.add_sub_cancel_left]
theorem sGets {k idx : Nat} (hdg : decode (mj_cc d) pc = .ok (.getstatic idx, 3)) (hk : k < 3) (hl : Cond.fieldLink (mj_y d).cls idx "DebtorViews" (mj_xn k) "[I" ∈ wsL_law) : mj_S d pc (oGets k) := by
  intro p l e s m args below meth c E post hC L st M z K h hK z1 z2 H locs ls hH hS hL
  refine va_gets hC.1 hC.2.1 (hC.2.2.2.2.2.2.2.2.2.1.1 k hk).1 hS hC.2.2.2.1 (hC.2.2.2.2.1 _ hl) (fun _ hx => hx) hdg ?_
  have h1 := hK _ _ _ _ _ h z1 z2 H locs ls hH hS hL
  rw [List.map_cons, mj_cvr, mj_adx] at h1
  exact h1
theorem sXald {k : Nat} (hdg : decode (mj_cc d) pc = .ok (.iaload, 1)) (hk : k < 3) : mj_S d pc (oXald k) := by
  intro p l e s m args below meth c E post hC L st M z K h hK z1 z2 H locs ls hH hS hL
  unfold oXald at h
  split at h
  · rename_i i o rest
    obtain ⟨rfl, g, h⟩ := h
    show W p l e _ s m args below meth c H locs z.1 z.2 _ (F0 m pc ls (.int i :: .ref (mj_ad E (1000 + k)) :: rest.map (mj_cv E)))
    rw [mj_adx]
    exact va_ti hC.1 hC.2.1 (hC.2.2.2.2.2.2.2.2.2.1.1 k hk).2 hS g (v := .int (mj_xc k i.toNatClampNeg)) rfl hdg (hK _ _ _ _ _ h z1 z2 H locs ls hH hS hL)
  · exact h.elim
theorem sXlen {k : Nat} (hdg : decode (mj_cc d) pc = .ok (.arraylength, 1)) (hk : k < 3) : mj_S d pc (oXlen k) := by
  intro p l e s m args below meth c E post hC L st M z K h hK z1 z2 H locs ls hH hS hL
  unfold oXlen at h
  split at h
  · rename_i o rest
    obtain ⟨rfl, h⟩ := h
    show W p l e _ s m args below meth c H locs z.1 z.2 _ (F0 m pc ls (.ref (mj_ad E (1000 + k)) :: rest.map (mj_cv E)))
    rw [mj_adx]
    exact va_tlen hC.1 hC.2.1 (hC.2.2.2.2.2.2.2.2.2.1.1 k hk).2 hS (v := 6) rfl hdg (hK _ _ _ _ _ h z1 z2 H locs ls hH hS hL)
  · exact h.elim
theorem sLdcS {i idx : Nat} (hdg : decode (mj_cc d) pc = .ok (.ldc idx, 2)) (hi : i < 8) (hy : (mj_y d).cls = "DebtorViews$Reader") (hx : mj_si i = idx) : mj_S d pc (oLdcS i) := by
  intro p l e s m args below meth c E post hC L st M z K h hK z1 z2 H locs ls hH hS hL
  have h3 := hC.2.2.2.2.2.2.2.2.2.1.2.2.1 i hi
  rw [hx, ← hy] at h3
  refine va_ldcS hC.1 hC.2.1 hC.2.2.2.1 h3 hdg ?_
  have h1 := hK _ _ _ _ _ h z1 z2 H locs ls hH hS hL
  rw [List.map_cons, mj_cvr, Nat.add_assoc 1000 10 i, mj_adx] at h1
  exact h1
end MJX
end
section
def mj_tn (k : Nat) (a b : Nat → mj_O) : Nat → mj_O := fun pc => match Nat.blt pc k with
  | true => a pc
  | false => b pc
def mj_lf (k : Nat) (o : mj_O) : Nat → mj_O := fun pc => match Nat.beq pc k with
  | true => o
  | false => oStuck
def oMax : mj_O := fun pc L st M z K _ => match st with
  | .inl y :: .inl x :: rest => rest.length ≤ 8 ∧ K (pc + 3) L (.inl (if x < y then y else x) :: rest) M z
  | _ => False
def oMin : mj_O := fun pc L st M z K _ => match st with
  | .inl y :: .inl x :: rest => rest.length ≤ 8 ∧ K (pc + 3) L (.inl (if y < x then y else x) :: rest) M z
  | _ => False
def mj_cp (I : mj_I) (o : Nat) (f : Nat → Int32) : mj_I := fun o' => if o' = o then f else I o'
def oCpy : mj_O := fun pc L st M z K _ => match st with
  | .inl n :: .inl dp :: .inr (some o1) :: .inl sp :: .inr (some o0) :: rest => (mj_sh o0).1 = 11 ∧ (mj_sh o1).1 = 11 ∧ o0 < M.1 ∧ o1 < M.1 ∧ ¬ sp < 0 ∧ ¬ dp < 0 ∧ ¬ n < 0 ∧ sp.toNatClampNeg + n.toNatClampNeg ≤ (mj_sh o0).2 ∧ dp.toNatClampNeg + n.toNatClampNeg ≤ (mj_sh o1).2 ∧ rest.length ≤ 8 ∧
      K (pc + 3) L rest (M.1, M.2.1, mj_cp M.2.2 o1 (va_cpy (M.2.2 o0) (M.2.2 o1) sp.toNatClampNeg dp.toNatClampNeg n.toNatClampNeg)) z
  | _ => False
def oObj : mj_O := fun pc L st M z K _ => match st with
  | .inr (some _) :: rest => rest.length ≤ 8 ∧ K (pc + 3) L rest M z
  | _ => False
def mj_nI (I : mj_I) (o : Nat) : mj_I := fun o' => if o' = o then (fun _ => 0) else I o'
def mj_nF (F : mj_F) (o : Nat) : mj_F := fun o' => if o' = o then (fun _ => none) else F o'
def oNew (t : Nat × Nat) (bc bs : Nat) : mj_O := fun pc L st M z K _ =>
  mj_sh M.1 = t ∧ M.1 + 1 ≤ 1000 ∧ z.1 + 1 ≤ bc ∧ z.2 + t.2 ≤ bs ∧ K (pc + 3) L (.inr (some M.1) :: st) (M.1 + 1, mj_nF M.2.1 M.1, mj_nI M.2.2 M.1) (z.1 + 1, z.2 + t.2)
def oNewR (t w : Nat) (bc bs : Nat) : mj_O := fun pc L st M z K _ => match st with
  | .inl n :: rest => (mj_sh M.1).1 = t ∧ M.1 + 1 ≤ 1000 ∧ ¬ n < 0 ∧ n.toNatClampNeg = (mj_sh M.1).2 ∧ (mj_sh M.1).2 ≤ 100000 ∧ z.1 + 1 ≤ bc ∧ z.2 + (mj_sh M.1).2 ≤ bs ∧ K (pc + w) L (.inr (some M.1) :: rest) (M.1 + 1, mj_nF M.2.1 M.1, mj_nI M.2.2 M.1) (z.1 + 1, z.2 + (mj_sh M.1).2)
  | _ => False
def oAast (t : Nat) (c : Nat × Nat) : mj_O := fun pc L st M z K _ => match st with
  | .inr (some r) :: .inl i :: .inr (some o) :: rest => (mj_sh o).1 = t ∧ o < M.1 ∧ mj_sh r = c ∧ r < M.1 ∧ vp_in i (mj_sh o).2 ∧ K (pc + 1) L rest (M.1, mj_uF M.2.1 o i.toNatClampNeg (some r), M.2.2) z
  | _ => False
section MJY
variable {d : mj_D} {pc : Nat}
theorem sTn {k : Nat} {a b : Nat → mj_O} (ha : ∀ pc, mj_S d pc (a pc)) (hb : ∀ pc, mj_S d pc (b pc)) (pc : Nat) : mj_S d pc (mj_tn k a b pc) := by
  unfold mj_tn
  cases Nat.blt pc k
  · exact hb pc
  · exact ha pc
theorem sLf {k : Nat} {o : mj_O} (h : mj_S d k o) (pc : Nat) : mj_S d pc (mj_lf k o pc) := by
  unfold mj_lf
  cases hk : Nat.beq pc k
  · exact sStuck
  · rw [Nat.eq_of_beq_eq_true hk]; exact h
theorem sMax {idx : Nat} (hdg : decode (mj_cc d) pc = .ok (.invokestatic idx, 3)) (m1 : Cond.methodLink (mj_y d).cls idx Lib.Math.max.name ∈ wsL_law) (m2 : Cond.static Lib.Math.max.name ∈ wsL_law) (m3 : Cond.initialized "java/lang/Math" ∈ wsL_law) (m4 : Cond.code Lib.Math.max.name Lib.Math.max.code 2 (some .int) ∈ wsL_law) (hR : 1 ≤ mj_fr d ∧ 21 ≤ mj_lo d) : mj_S d pc oMax := by
  intro p l e s m args below meth c E post hC L st M z K h hK h1 h2 H locs ls hH hS hL
  unfold oMax at h
  split at h
  · rename_i y x rest
    have g := hC.2.2.2.2.1
    exact va_mmax hC.1 hC.2.1 (hC.2.2.1.trans hL.2.1.symm) hC.2.2.2.1 (g _ m1) (g _ m2) (g _ m3) (g _ m4) hR.1 (by rw [mj_sum]; show _ ≤ mj_lo d; have := h.1; omega) h1 h2 hdg (hK _ _ _ _ _ h.2 h1 h2 H locs ls hH hS hL)
  · exact h.elim
theorem sMin {idx : Nat} (hdg : decode (mj_cc d) pc = .ok (.invokestatic idx, 3)) (m1 : Cond.methodLink (mj_y d).cls idx Lib.Math.min.name ∈ wsL_law) (m2 : Cond.static Lib.Math.min.name ∈ wsL_law) (m3 : Cond.initialized "java/lang/Math" ∈ wsL_law) (m4 : Cond.code Lib.Math.min.name Lib.Math.min.code 2 (some .int) ∈ wsL_law) (hR : 1 ≤ mj_fr d ∧ 21 ≤ mj_lo d) : mj_S d pc oMin := by
  intro p l e s m args below meth c E post hC L st M z K h hK h1 h2 H locs ls hH hS hL
  unfold oMin at h
  split at h
  · rename_i y x rest
    have g := hC.2.2.2.2.1
    exact va_mmin hC.1 hC.2.1 (hC.2.2.1.trans hL.2.1.symm) hC.2.2.2.1 (g _ m1) (g _ m2) (g _ m3) (g _ m4) hR.1 (by rw [mj_sum]; show _ ≤ mj_lo d; have := h.1; omega) h1 h2 hdg (hK _ _ _ _ _ h.2 h1 h2 H locs ls hH hS hL)
  · exact h.elim
theorem sObj {idx : Nat} (hdg : decode (mj_cc d) pc = .ok (.invokespecial idx, 3)) (m1 : Cond.methodLink (mj_y d).cls idx Lib.objectInit ∈ wsL_law) (m2 : Cond.instanceMethod Lib.objectInit ∈ wsL_law) (m3 : Cond.code Lib.objectInit ⟨#[0xb1]⟩ 1 none ∈ wsL_law) (hR : 1 ≤ mj_fr d ∧ 20 ≤ mj_lo d) : mj_S d pc oObj := by
  intro p l e s m args below meth c E post hC L st M z K h hK h1 h2 H locs ls hH hS hL
  unfold oObj at h
  split at h
  · rename_i o rest
    have g := hC.2.2.2.2.1
    exact W.objInit hC.1 hC.2.1 hC.2.2.2.1 (g _ m1) (g _ m2) (g _ m3) rfl (hL.2.1.trans hC.2.2.1.symm) (a := mj_ad E o) (rest := rest.map (mj_cv E)) rfl hdg hR.1 (by rw [mj_sum]; show 2 * 0 + _ + 12 ≤ mj_lo d; have := h.1; omega) (hK _ _ _ _ _ h.2 h1 h2 H locs ls hH hS hL)
  · exact h.elim
theorem mj_ws_push {E : mj_E} {n : Nat} {F F' : mj_F} {I I' : mj_I} (hF : ∀ o, o < n → F' o = F o) (hI : ∀ o, o < n → I' o = I o) : mj_ws E (n + 1, F', I') = mj_ws E (n, F, I) ++ [(E.2.2.1 + n, mj_ce E (n + 1, F', I') n)] := by
  simp only [mj_ws, List.range_succ, List.map_append, List.map_cons, List.map_nil]
  congr 1
  apply List.map_congr_left
  intro o ho
  have ho := List.mem_range.mp ho
  simp only [mj_ce, hF o ho, hI o ho]
theorem mj_nI_lt {I : mj_I} {n o : Nat} (h : o < n) : mj_nI I n o = I o := if_neg (by omega)
theorem mj_nF_lt {F : mj_F} {n o : Nat} (h : o < n) : mj_nF F n o = F o := if_neg (by omega)
theorem mj_pushH {E : mj_E} {M : mj_M} {H H1 : Heap} (hP : va_P E.1 vwCl (mj_ws E M) H) (hz : H.size = E.2.2.1 + M.1) (z1 : H1.size = H.size + 1) (o1 : ∀ q, q < H.size → H1[q]? = H[q]?)
    (hc : va_at E.1 vwCl (E.2.2.1 + M.1, mj_ce E (M.1 + 1, mj_nF M.2.1 M.1, mj_nI M.2.2 M.1) M.1) H1) (hM : M.1 + 1 ≤ 1000) : mj_H E (M.1 + 1, mj_nF M.2.1 M.1, mj_nI M.2.2 M.1) H1 := by
  refine ⟨?_, by rw [z1, hz]; show _ = E.2.2.1 + (M.1 + 1); omega, hM⟩
  rw [mj_ws_push (F := M.2.1) (I := M.2.2) (fun o h => mj_nF_lt h) (fun o h => mj_nI_lt h)]
  refine (hP.kept (fun k x hx => o1 x.1 (hP k x hx).lt)).app (fun k x hx => ?_)
  have hz : k < 1 := (List.getElem?_eq_some_iff.mp hx).1
  rw [show k = 0 by omega] at hx
  cases hx
  exact hc
theorem mj_pushS {E : mj_E} {H0 H H1 : Heap} {locs : List Loc} (hS : va_S (mj_A E) H0 H locs) (z1 : H1.size = H.size + 1) (o1 : ∀ q, q < H.size → H1[q]? = H[q]?) : va_S (mj_A E) H0 H1 locs :=
  ⟨Nat.le_trans hS.1 (by omega), fun x h1 h2 => (o1 x (Nat.lt_of_lt_of_le h1 hS.1)).trans (hS.2.1 x h1 h2), hS.2.2⟩
theorem sNew {t N idx bc bs : Nat} {C : String} {T : u_T} {ty : Nat → FieldType} (hdg : decode (mj_cc d) pc = .ok (.new idx, 3)) (hc : vwCl[t]? = some (C, T, N)) (ht : t < 11) (hin : ∀ w ∈ u_ws C T N, w ∈ wsL_law) (hty : ∀ k, k < N → parseFieldDescriptor (T k).2.2.1 = some (ty k))
    (m1 : Cond.classLink (mj_y d).cls idx C ∈ wsL_law) (m2 : Cond.instantiable C N ∈ wsL_law) (m3 : Cond.initialized C ∈ wsL_law) (hdf : ∀ j, j < N → defaultValue (ty j) = if mj_rk t j = true then .null else .int 0) (hb : bc = mj_mc d ∧ bs = mj_ms d) : mj_S d pc (oNew (t, N) bc bs) := by
  intro p l e s m args below meth c E post hC L st M z K h hK h1 h2 H locs ls hH hS hL
  obtain ⟨g1, g2, g3, g4, h⟩ := h
  obtain ⟨hP, hz, hM⟩ := hH
  have g := hC.2.2.2.2.1
  have hKn := hC.2.2.2.2.2.2.2.2.1.1.1 t _ hc
  refine W.newcK hC.1 hC.2.1 hC.2.2.2.1 (g _ m1) (g _ m2) (g _ m3) rfl hdg (by show _ ≤ mj_mc d; rw [← hb.1]; exact g3) (by show _ ≤ mj_ms d; rw [← hb.2]; exact g4) hKn.2.1 hz fun H1 kC hkC e1 z1 o1 => ?_
  rw [← hz] at z1 o1
  have hcell : va_at E.1 vwCl (E.2.2.1 + M.1, mj_ce E (M.1 + 1, mj_nF M.2.1 M.1, mj_nI M.2.2 M.1) M.1) H1 := by
    rw [mj_ce_ob g1 ht]
    refine ⟨_, hc, (u_born ty g hin hKn hkC e1 hty).to (fun j hj => ?_)⟩
    rw [hdf j hj]
    have hj' : j < N := hj
    simp only [vp_V, mj_fv, mj_nF, mj_nI, if_true, List.getD_eq_getElem?_getD, List.getElem?_map, List.getElem?_range hj', Option.map_some, Option.getD_some, Option.map_none, va_rf]
  have h6 := hK _ _ _ _ _ h (by show z.1 + 1 ≤ mj_mc d; rw [← hb.1]; exact g3) (by show z.2 + N ≤ mj_ms d; rw [← hb.2]; exact g4) H1 locs ls (mj_pushH hP hz z1 o1 hcell g2) (mj_pushS hS z1 o1) hL
  rw [List.map_cons, mj_cvr, mj_ad, if_pos (by omega)] at h6
  exact h6
theorem sNewR {t bc bs : Nat} {atype : ArrayType} {ty : FieldType} (hdg : decode (mj_cc d) pc = .ok (.newarray atype, 2)) (hat : newarray.typeOf atype = ty) (m1 : Cond.arrayClass ty ∈ wsL_law) (ht : t = 11 ∧ ty = .int ∨ t = 12 ∧ ty = .boolean) (hb : bc = mj_mc d ∧ bs = mj_ms d) : mj_S d pc (oNewR t 2 bc bs) := by
  intro p l e s m args below meth c E post hC L st M z K h hK h1 h2 H locs ls hH hS hL
  unfold oNewR at h
  split at h
  · rename_i n rest
    obtain ⟨g1, g2, g5, g6, g7, g3, g4, h⟩ := h
    obtain ⟨hP, hz, hM⟩ := hH
    have g := hC.2.2.2.2.1
    subst hat
    refine va_newaK hC.1 hC.2.1 (g _ m1) rfl hdg rfl g5 g6 (by rcases ht with ⟨-, e⟩ | ⟨-, e⟩ <;> rw [e] <;> simp only [componentBytes] <;> omega) (by show _ ≤ mj_mc d; rw [← hb.1]; exact g3) (by show _ ≤ mj_ms d; rw [← hb.2]; exact g4) hz fun H1 cA e1 z1 o1 hAr hNm => ?_
    rw [← hz] at z1 o1
    have hcell : va_at E.1 vwCl (E.2.2.1 + M.1, mj_ce E (M.1 + 1, mj_nF M.2.1 M.1, mj_nI M.2.2 M.1) M.1) H1 := by
      rcases ht with ⟨rfl, e⟩ | ⟨rfl, e⟩
      · rw [mj_ce_int g1 (by decide) (by decide)]
        have hk := (hC.2.2.2.2.2.2.2.2.1.1.2 0 _ rfl).2
        rw [e] at hNm e1
        have hcA : cA = E.2.1 0 := Option.some.inj (hNm.symm.trans hk)
        show H1[_]? = some (vp_cell _ _)
        rw [e1, hcA, vp_cell_i]
        simp only [mj_nI, if_true]
        rfl
      · rw [mj_ce_int g1 (by decide) (by decide)]
        have hk := (hC.2.2.2.2.2.2.2.2.1.1.2 1 _ rfl).2
        rw [e] at hNm e1
        have hcA : cA = E.2.1 1 := Option.some.inj (hNm.symm.trans hk)
        show H1[_]? = some (vp_cell _ _)
        rw [e1, hcA, vp_cell_i]
        simp only [mj_nI, if_true]
        rfl
    have h6 := hK _ _ _ _ _ h (by show z.1 + 1 ≤ mj_mc d; rw [← hb.1]; exact g3) (by show z.2 + _ ≤ mj_ms d; rw [← hb.2]; exact g4) H1 locs ls (mj_pushH hP hz z1 o1 hcell g2) (mj_pushS hS z1 o1) hL
    rw [List.map_cons, mj_cvr, mj_ad, if_pos (by omega)] at h6
    exact h6
  · exact h.elim
theorem sNewQ {t idx bc bs : Nat} {C : String} (hdg : decode (mj_cc d) pc = .ok (.anewarray idx, 3)) (m1 : Cond.classLink (mj_y d).cls idx C ∈ wsL_law) (ht : t = 13 ∧ C = "DebtorViews$View" ∨ t = 14 ∧ C = "DebtorViews$Books" ∨ t = 15 ∧ C = "DebtorViews$State") (hb : bc = mj_mc d ∧ bs = mj_ms d) : mj_S d pc (oNewR t 3 bc bs) := by
  intro p l e s m args below meth c E post hC L st M z K h hK h1 h2 H locs ls hH hS hL
  unfold oNewR at h
  split at h
  · rename_i n rest
    obtain ⟨g1, g2, g5, g6, g7, g3, g4, h⟩ := h
    obtain ⟨hP, hz, hM⟩ := hH
    have g := hC.2.2.2.2.1
    have hKK := hC.2.2.2.2.2.2.2.2.1
    have hao : va_AO C s := by
      rcases ht with ⟨-, e⟩ | ⟨-, e⟩ | ⟨-, e⟩
      · rw [e]; exact hKK.2.1
      · rw [e]; exact hKK.2.2.1
      · rw [e]; exact hKK.2.2.2
    have hk : ∃ k : Nat, t = 11 + k ∧ 2 ≤ k ∧ (mj_ty E)[k]? = some (E.2.1 k, .object C) := by
      rcases ht with ⟨rfl, rfl⟩ | ⟨rfl, rfl⟩ | ⟨rfl, rfl⟩
      · exact ⟨2, rfl, by decide, rfl⟩
      · exact ⟨3, rfl, by decide, rfl⟩
      · exact ⟨4, rfl, by decide, rfl⟩
    obtain ⟨k, rfl, hk2, hkt⟩ := hk
    refine W.anew hC.1 hC.2.1 hC.2.2.2.1 (g _ m1) (va_AO.use hao) rfl hdg rfl g5 (by rw [g6]; omega) (by show _ ≤ mj_mc d; rw [← hb.1]; exact g3) (by show _ ≤ mj_ms d; rw [← hb.2, g6]; exact g4) fun cA kA comp f1 f2 f3 f4 => ?_
    generalize hH1 : H.push ({ cls := cA, slots := Array.replicate n.toNatClampNeg .null, vm := .none } : Cell) = H1
    have z1 : H1.size = H.size + 1 := by rw [← hH1, Array.size_push]
    have e1 : H1[H.size]? = some (arrV cA n.toNatClampNeg (fun _ => .null)) := by rw [← hH1, Array.getElem?_push_size, ← arrV_new]
    have o1 : ∀ q : Nat, q < H.size → H1[q]? = H[q]? := fun q hq => by rw [← hH1, Array.getElem?_push, if_neg (Nat.ne_of_lt hq)]
    have hcell : va_at E.1 vwCl (E.2.2.1 + M.1, mj_ce E (M.1 + 1, mj_nF M.2.1 M.1, mj_nI M.2.2 M.1) M.1) H1 := by
      rw [mj_ce_ref g1 (by omega)]
      obtain ⟨kA', comp', k1, k2, k3, k4⟩ := (hKK.1.2 k _ hkt).2
      have hcA : cA = E.2.1 k := Option.some.inj (f1.symm.trans k4)
      show H1[_]? = some (vp_cell _ _)
      rw [← hz, e1, hcA, vp_cell_q, g6, Nat.add_sub_cancel_left]
      simp only [mj_nF, if_true]
      rfl
    have h6 := hK _ _ _ _ _ h (by show z.1 + 1 ≤ mj_mc d; rw [← hb.1]; exact g3) (by show z.2 + _ ≤ mj_ms d; rw [← hb.2]; exact g4) H1 locs ls (mj_pushH hP hz z1 o1 hcell g2) (mj_pushS hS z1 o1) hL
    rw [List.map_cons, mj_cvr, mj_ad, if_pos (by omega), ← hz, ← g6] at h6
    exact h6
  · exact h.elim
theorem sAast {t ci N : Nat} {C : String} {T : u_T} (hdg : decode (mj_cc d) pc = .ok (.aastore, 1)) (hc : vwCl[ci]? = some (C, T, N)) (hci : ci < 11) (h13 : 13 ≤ t) (hty : ∀ E : mj_E, (mj_ty E)[t - 11]? = some (E.2.1 (t - 11), .object C)) : mj_S d pc (oAast t (ci, N)) := by
  intro p l e s m args below meth c E post hC L st M z K h hK h1 h2 H locs ls hH hS hL
  unfold oAast at h
  split at h
  · rename_i v i o rest
    obtain ⟨g1, g2, g3, g4, g5, h⟩ := h
    obtain ⟨hP, hz, hM⟩ := hH
    have hKK := hC.2.2.2.2.2.2.2.2.1.1
    have hlt : i.toNatClampNeg < (mj_sh o).2 := mj_vin g5
    have h0 : ¬ i < 0 := fun q => g5 (Or.inl q)
    show W p l e _ s m args below meth c H locs z.1 z.2 _ (F0 m pc ls (.ref (mj_ad E v) :: .int i :: .ref (mj_ad E o) :: rest.map (mj_cv E)))
    rw [mj_ad_lt (E := E) g2 hM, mj_ad_lt (E := E) g4 hM]
    have hcell : (mj_ws E M)[o]? = some (E.2.2.1 + o, .inl (E.2.1 (t - 11), (mj_sh o).2, .inr (.inr (.inr (.inr (fun j => (M.2.1 o j).map (mj_ad E))))))) := (mj_ws_at g2).trans (by rw [mj_ce_ref g1 h13])
    obtain ⟨r', hr', cellV, q1, q2, q3, -⟩ := hP v _ ((mj_ws_at g4).trans (by rw [mj_ce_ob g3 hci]))
    have hcls := (hKK.1 ci _ hc).2
    obtain ⟨kA, comp, k1, k2, k3, -⟩ := (hKK.2 _ _ (hty E)).2
    have hcomp : comp = E.1.1 ci := Option.some.inj (k3.symm.trans hcls.1)
    subst hcomp
    obtain ⟨kC, hkC, -⟩ := hcls.2
    refine W.aast hC.1 hC.2.1 (hP o _ hcell) (fun q h => by cases h) (fun h => by cases h) k1 k2 rfl hkC ⟨h0, by show _ < (arrV _ _ _).slots.size; rw [arrV_size]; exact hlt⟩ q1 (fun q h => by rw [q3] at h; cases h) (by rw [q2]; exact hkC) (by rw [q2]; exact va_assign hcls) rfl rfl hdg fun H1 e z1 oq => ?_
    have hset : va_P E.1 vwCl (mj_ws E (M.1, mj_uF M.2.1 o i.toNatClampNeg (some v), M.2.2)) H1 := by
      rw [← mj_ws_set (E := E) (M := M) (M' := (M.1, mj_uF M.2.1 o i.toNatClampNeg (some v), M.2.2)) (e := .inl (E.2.1 (t - 11), (mj_sh o).2, .inr (.inr (.inr (.inr (fun j => (va_up (M.2.1 o) i.toNatClampNeg (some v) j).map (mj_ad E))))))) rfl g2 (by rw [mj_ce_ref g1 h13]; simp only [mj_uF_eq]) (fun q hq => mj_ce_uF hq)]
      refine hP.set mj_ws_D hcell ?_ oq
      show H1[_]? = some (vp_cell _ _)
      rw [e]
      rw [vp_cell_q, vp_cell_q, arrV_store]
      congr 2
      funext q
      by_cases hq : q = i.toNatClampNeg
      · subst hq
        simp [updV, va_up, va_rf, mj_ad_lt (E := E) g4 hM]
      · simp [updV, va_up, hq]
    exact hK _ _ _ _ _ h h1 h2 H1 _ ls ⟨hset, z1.trans hz, hM⟩ (hS.put z1 oq (mj_ws_D.2 o _ hcell)) hL
  · exact h.elim
end MJY
end
section
section MJZ
variable {d : mj_D} {pc : Nat}
theorem mj_nn (z : Int32) (hz : ¬ z < 0) : z.toInt = (z.toNatClampNeg : Int) := by
  have hz0 : (0 : Int) ≤ z.toInt := by
    have := Int32.not_lt.mp hz
    simpa using Int32.le_iff_toInt_le.mp this
  show z.toInt = ((z.toInt.toNat : Nat) : Int)
  omega
theorem sCpy {idx : Nat} (hdg : decode (mj_cc d) pc = .ok (.invokestatic idx, 3)) (m1 : Cond.methodLink (mj_y d).cls idx arraycopyName ∈ wsL_law) (m2 : Cond.native arraycopyName ∈ wsL_law) (m3 : Cond.static arraycopyName ∈ wsL_law) (m4 : Cond.initialized "java/lang/System" ∈ wsL_law) (hR : 1 ≤ mj_fr d ∧ 26 ≤ mj_lo d) : mj_S d pc oCpy := by
  intro p l e s m args below meth c E post hC L st M z K h hK h1 h2 H locs ls hH hS hL
  unfold oCpy at h
  split at h
  · rename_i n dp o1 sp o0 rest
    obtain ⟨g1, g2, g3, g4, g5, g6, g7, g8, g9, g10, h⟩ := h
    obtain ⟨hP, hz, hM⟩ := hH
    have g := hC.2.2.2.2.1
    show W p l e _ s m args below meth c H locs z.1 z.2 _ (F0 m pc ls (.int n :: .int dp :: .ref (mj_ad E o1) :: .int sp :: .ref (mj_ad E o0) :: rest.map (mj_cv E)))
    rw [mj_ad_lt (E := E) g3 hM, mj_ad_lt (E := E) g4 hM]
    have ha0 : (mj_ws E M)[o0]? = some (E.2.2.1 + o0, .inl (E.2.1 0, (mj_sh o0).2, .inl (M.2.2 o0))) := (mj_ws_at g3).trans (by rw [mj_ce_int g1 (by decide) (by decide)])
    have ha1 : (mj_ws E M)[o1]? = some (E.2.2.1 + o1, .inl (E.2.1 0, (mj_sh o1).2, .inl (M.2.2 o1))) := (mj_ws_at g4).trans (by rw [mj_ce_int g2 (by decide) (by decide)])
    have hK0 := (hC.2.2.2.2.2.2.2.2.1.1.2 0 _ rfl).1
    intro T hT X
    have hc0 : H[E.2.2.1 + o0]? = some (vp_cell (E.2.1 0) ((mj_sh o0).2, .inl (M.2.2 o0))) := hP o0 _ ha0
    have hc1 : H[E.2.2.1 + o1]? = some (vp_cell (E.2.1 0) ((mj_sh o1).2, .inl (M.2.2 o1))) := hP o1 _ ha1
    obtain ⟨-, k0, hk0, cm0, hkk0⟩ := hK0 (mj_sh o0).2 (fun j => .int (M.2.2 o0 j))
    obtain ⟨-, k1, hk1, cm1, hkk1⟩ := hK0 (mj_sh o1).2 (fun j => .int (M.2.2 o1 j))
    obtain ⟨vm', X', step⟩ := X.arraycopy hC.1 hC.2.2.2.1 (g _ m1) (g _ m2) (g _ m3) (g _ m4) (src := E.2.2.1 + o0) (dst := E.2.2.1 + o1) (cs := vp_cell (E.2.1 0) ((mj_sh o0).2, .inl (M.2.2 o0))) (cd := vp_cell (E.2.1 0) ((mj_sh o1).2, .inl (M.2.2 o1))) (srcPos := sp) (destPos := dp) (n := n) (by rw [hT]; exact hc0) (by rw [hT]; exact hc1)
      (fun _ h => by cases h) (fun _ h => by cases h) (fun h => by cases h) (fun h => by cases h) hk0 hk1 hkk0 hkk1 (by simp [show refKind .int = false from rfl]) g5 g6 g7
      (by rw [mj_nn sp g5, mj_nn n g7]; show ¬ _ > ((arrV _ (mj_sh o0).2 (fun j => .int (M.2.2 o0 j))).slots.size : Int); rw [arrV_size]; omega)
      (by rw [mj_nn dp g6, mj_nn n g7]; show ¬ _ > ((arrV _ (mj_sh o1).2 (fun j => .int (M.2.2 o1 j))).slots.size : Int); rw [arrV_size]; omega)
      (fun vm₁ _ i hi => by
        have e : (vp_cell (E.2.1 0) ((mj_sh o0).2, .inl (M.2.2 o0))).slots.getD (sp.toNatClampNeg + i) .null = .int (M.2.2 o0 (sp.toNatClampNeg + i)) := by
          show (arrV _ (mj_sh o0).2 (fun j => .int (M.2.2 o0 j))).slots.getD _ _ = _
          rw [Array.getD_eq_getD_getElem?, arrV_read _ _ (by omega)]
          rfl
        refine ⟨?_, ?_⟩
        · rw [e]
          rfl
        · rw [e]
          exact trivial)
      (g := F0 m pc ls (.int n :: .int dp :: .ref (E.2.2.1 + o1) :: .int sp :: .ref (E.2.2.1 + o0) :: rest.map (mj_cv E))) rfl (by rw [hC.2.2.1]; exact hL.2.1) (rest := rest.map (mj_cv E)) rfl (by rw [hC.2.1]; exact hdg) hR.1 (by rw [mj_sum]; show 2 * 0 + _ + (nativeFrameWords "java/lang/System" "arraycopy" 5 + 11) ≤ mj_lo d; rw [show nativeFrameWords "java/lang/System" "arraycopy" 5 = 7 from by decide +kernel]; omega)
    have e1 : copied (vp_cell (E.2.1 0) ((mj_sh o0).2, .inl (M.2.2 o0))) (vp_cell (E.2.1 0) ((mj_sh o1).2, .inl (M.2.2 o1))) sp dp n = vp_cell (E.2.1 0) ((mj_sh o1).2, .inl (va_cpy (M.2.2 o0) (M.2.2 o1) sp.toNatClampNeg dp.toNatClampNeg n.toNatClampNeg)) := va_copied (fun z => .int z) _ _ _ _ g8
    rw [e1] at X' step
    have hl : E.2.2.1 + o1 < H.size := (Array.getElem?_eq_some_iff.mp hc1).1
    generalize hcv : vp_cell (E.2.1 0) ((mj_sh o1).2, .inl (va_cpy (M.2.2 o0) (M.2.2 o1) sp.toNatClampNeg dp.toNatClampNeg n.toNatClampNeg)) = cv at X' step
    have hheap : ((T.setVm vm').setCell (E.2.2.1 + o1) cv).heap = H.setIfInBounds (E.2.2.1 + o1) cv := by rw [← hT]; rfl
    have oq : ∀ q : Nat, q ≠ E.2.2.1 + o1 → (H.setIfInBounds (E.2.2.1 + o1) cv)[q]? = H[q]? := fun q hq => by simp [Array.getElem?_setIfInBounds, Ne.symm hq]
    have hset : va_P E.1 vwCl (mj_ws E (M.1, M.2.1, mj_cp M.2.2 o1 (va_cpy (M.2.2 o0) (M.2.2 o1) sp.toNatClampNeg dp.toNatClampNeg n.toNatClampNeg))) (H.setIfInBounds (E.2.2.1 + o1) cv) := by
      rw [← mj_ws_set (E := E) (M := M) (M' := (M.1, M.2.1, mj_cp M.2.2 o1 (va_cpy (M.2.2 o0) (M.2.2 o1) sp.toNatClampNeg dp.toNatClampNeg n.toNatClampNeg))) (e := .inl (E.2.1 0, (mj_sh o1).2, .inl (va_cpy (M.2.2 o0) (M.2.2 o1) sp.toNatClampNeg dp.toNatClampNeg n.toNatClampNeg))) rfl g4 (by rw [mj_ce_int g2 (by decide) (by decide)]; simp only [mj_cp, if_true]) (fun q hq => by simp only [mj_ce, mj_cp, hq, if_false])]
      refine hP.set mj_ws_D ha1 ?_ oq
      show (H.setIfInBounds (E.2.2.1 + o1) cv)[E.2.2.1 + o1]? = some (vp_cell _ _)
      rw [hcv]
      simp [Array.getElem?_setIfInBounds, hl]
    obtain ⟨t, a1, b1⟩ := hK _ _ _ _ _ h h1 h2 (H.setIfInBounds (E.2.2.1 + o1) cv) _ ls ⟨hset, by simp; exact hz, hM⟩ ⟨by simp; exact hS.1, fun q q1 q2 => by
      rw [oq q (fun e => q2 (by rw [e]; exact mj_ws_D.2 o1 _ ha1))]
      exact hS.2.1 q q1 q2, fun q hq => by
      rcases List.mem_append.mp hq with h | h
      · exact hS.2.2 q h
      · obtain ⟨z, -, hz⟩ := List.mem_map.mp h
        rw [← hz]
        exact mj_ws_D.2 o1 _ ha1⟩ hL _ hheap X'
    exact ⟨t, step t a1, b1⟩
  · exact h.elim
end MJZ
end
section
section MJN
variable {d : mj_D} {pc : Nat}
theorem sGetIN {t N k idx : Nat} {C host : String} {T : u_T} (hdg : decode (mj_cc d) pc = .ok (.getfield idx, 3)) (hc : vwCl[t]? = some (C, T, N)) (hin : ∀ w ∈ u_ws C T N, w ∈ wsL_law) (hk : k < N) (hT : (T k).1 = C) (hl : Cond.fieldLinkNest (mj_y d).cls idx C (T k).2.1 (T k).2.2.1 host ∈ mj_nest) (hr : mj_rk t k = false) (ht : t < 11) : mj_S d pc (oGetI (t, N) k) := by
  intro p l e s m args below meth c E post hC L st M z K h hK h1 h2 H locs ls hH hS hL
  unfold oGetI at h
  split at h
  · rename_i o rest
    obtain ⟨g1, g2, h⟩ := h
    obtain ⟨hP, hz, hM⟩ := hH
    have ha := mj_ad_lt (E := E) g2 hM
    show W p l e _ s m args below meth c H locs z.1 z.2 _ (F0 m pc ls (.ref (mj_ad E o) :: rest.map (mj_cv E)))
    rw [ha]
    refine va_getN hC.1 hC.2.1 hC.2.2.2.2.1 hin hC.2.2.2.1 hC.2.2.2.2.2.2.2.2.1.1 hP o ((mj_ws_at g2).trans (by rw [mj_ce_ob g1 ht])) hc k hk (va_Nw.use (mj_nt (List.all_eq_true.mp mj_nestN _ hl)) (hC.2.2.2.2.2.2.2.2.2.1.2.2.2.2 _ hl)) (fun x hx => by rw [hT] at hx; exact hx) (v := .int (M.2.2 o k)) (by simp [hk, mj_fv, hr]) hdg ?_
    exact hK _ _ _ _ _ h h1 h2 H locs ls ⟨hP, hz, hM⟩ hS hL
  · exact h.elim
theorem sGetRN {t N k idx : Nat} {C host : String} {T : u_T} (hdg : decode (mj_cc d) pc = .ok (.getfield idx, 3)) (hc : vwCl[t]? = some (C, T, N)) (hin : ∀ w ∈ u_ws C T N, w ∈ wsL_law) (hk : k < N) (hT : (T k).1 = C) (hl : Cond.fieldLinkNest (mj_y d).cls idx C (T k).2.1 (T k).2.2.1 host ∈ mj_nest) (hr : mj_rk t k = true) (ht : t < 11) : mj_S d pc (oGetR (t, N) k) := by
  intro p l e s m args below meth c E post hC L st M z K h hK h1 h2 H locs ls hH hS hL
  unfold oGetR at h
  split at h
  · rename_i o rest
    obtain ⟨g1, g2, h⟩ := h
    obtain ⟨hP, hz, hM⟩ := hH
    have ha := mj_ad_lt (E := E) g2 hM
    show W p l e _ s m args below meth c H locs z.1 z.2 _ (F0 m pc ls (.ref (mj_ad E o) :: rest.map (mj_cv E)))
    rw [ha]
    refine va_getN hC.1 hC.2.1 hC.2.2.2.2.1 hin hC.2.2.2.1 hC.2.2.2.2.2.2.2.2.1.1 hP o ((mj_ws_at g2).trans (by rw [mj_ce_ob g1 ht])) hc k hk (va_Nw.use (mj_nt (List.all_eq_true.mp mj_nestN _ hl)) (hC.2.2.2.2.2.2.2.2.2.1.2.2.2.2 _ hl)) (fun x hx => by rw [hT] at hx; exact hx) (v := va_rf ((M.2.1 o k).map (mj_ad E))) (by simp [hk, mj_fv, hr]) hdg ?_
    exact hK _ _ _ _ _ h h1 h2 H locs ls ⟨hP, hz, hM⟩ hS hL
  · exact h.elim
theorem mj_putN {p : Program} {l : Launch} {e : Env} {R : Room} {s : State} {m : MethodId} {args : Array Value} {below : List Frame} {meth : Method} {c : Code} {H : Heap} {locs : List Loc} {cells slots : Nat} {Q : State → Prop} {cc : ByteArray} {pc : Nat} {ls : Array Slot} {rest : List Value} {D : va_G} {cl : List vw_C} {A : Nat → Prop} {a : Nat} {tys : List (ClassId × FieldType)} {ws : va_W} {H0 : Heap} (hexec : p.tables.exec = Jvm.exec) (hb : c.code = cc) {own ref C host : String} {T : u_T} {N ci index : Nat} {Ts : List Cond} (hts : ∀ w ∈ Ts, w.before args s = true) (hin : ∀ w ∈ u_ws C T N, w ∈ Ts) (ty0 : Nat → FieldType) (hty : ∀ k, k < N → parseFieldDescriptor (T k).2.2.1 = some (ty0 k)) (hnm : ∀ a, a < N → ∀ b, b < N → a ≠ b → (T a).2.1 ≠ (T b).2.1) (hown : s.vm.findClass own = some m.cls) (hK : va_K D cl tys s) (hP : va_P D cl ws H) (hD : va_D A ws) (hS0 : va_S A H0 H locs) (q0 : Nat) {fs : List Value} (he : ws[q0]? = some (a, .inr (ci, fs))) (hc : cl[ci]? = some (C, T, N)) (k : Nat) (hk : k < N) (hlink : (Cond.fieldLinkNest own index ref (T k).2.1 (T k).2.2.1 host).before args s = true) (hsame : ∀ x, s.fieldFound? (T k).1 (T k).2.1 (T k).2.2.1 = some x → s.fieldFound? ref (T k).2.1 (T k).2.2.1 = some x) (hfin : (T k).2.2.2 = false) {ty : FieldType} {v : Value} (hd : parseFieldDescriptor (T k).2.2.1 = some ty) (hn : narrow ty v = v) (hfit : fits ty v = true) (hl : k < fs.length)
    (hdg : decode cc pc = .ok (.putfield index, 3)) (kk : ∀ (H1 : Heap) (locs1 : List Loc), H1.size = H.size → va_P D cl (ws.set q0 (a, .inr (ci, fs.set k v))) H1 → va_S A H0 H1 locs1 → W p l e R s m args below meth c H1 locs1 cells slots Q (F0 m (pc + 3) ls rest)) : W p l e R s m args below meth c H locs cells slots Q (F0 m pc ls (v :: .ref a :: rest)) := by
  have hap := va_apart (own := own) hts hin ty0 hty hnm hK hc
  obtain ⟨r, h1, cell, q1, q2, q3, q4⟩ := hP q0 _ he
  have hr : r = (C, T, N) := Option.some.inj (h1.symm.trans hc)
  subst hr
  obtain ⟨hS, hfc, kC, hkC, hkind⟩ := hK.1 ci _ hc
  obtain ⟨cf, kf, fi, f, hi, hsl⟩ := hS k hk
  have hlay := hts _ (hin _ (u_in_lay hk))
  unfold u_lay at hlay
  rw [if_neg (by rw [hfin]; decide)] at hlay
  have hst := (u_facts hfc hkC (u_lays hts hin hk) hi).1
  have h6 := u_store hfc hkC hkind hlay hi hd hn hfit
  refine va_WputK hexec hb (f := f) hown hlink (hsame _ hi) hst (by rw [q2]; exact h6) q1 q3 (by rw [hsl]; exact k2_hasslot (q4 k hk)) rfl rfl hdg fun H' e1 e2 e3 => ?_
  rw [hsl] at e1 ⊢
  exact kk H' _ e2 (hP.set hD he ⟨_, hc, t_OB.to (V := updV (vp_V fs) k v) ⟨_, e1, q2, q3, t_set q4 hap hk v⟩ (fun j _ => vp_updV_set hl v j)⟩ e3) (hS0.put e2 e3 (hD.2 q0 _ he))
theorem sPutIN {t N k idx : Nat} {C host : String} {T : u_T} {ty0 : Nat → FieldType} (hdg : decode (mj_cc d) pc = .ok (.putfield idx, 3)) (hc : vwCl[t]? = some (C, T, N)) (hin : ∀ w ∈ u_ws C T N, w ∈ wsL_law) (hty : ∀ k, k < N → parseFieldDescriptor (T k).2.2.1 = some (ty0 k)) (hnm : ∀ a, a < N → ∀ b, b < N → a ≠ b → (T a).2.1 ≠ (T b).2.1) (hk : k < N) (hT : (T k).1 = C ∧ (T k).2.2.2 = false ∧ ty0 k = .int) (hl : Cond.fieldLinkNest (mj_y d).cls idx C (T k).2.1 (T k).2.2.1 host ∈ mj_nest) (hr : mj_rk t k = false) (ht : t < 11) : mj_S d pc (oPutI (t, N) k) := by
  intro p l e s m args below meth c E post hC L st M z K h hK h1 h2 H locs ls hH hS hL
  unfold oPutI at h
  split at h
  · rename_i x o rest
    obtain ⟨g1, g2, h⟩ := h
    obtain ⟨hP, hz, hM⟩ := hH
    have ha := mj_ad_lt (E := E) g2 hM
    show W p l e _ s m args below meth c H locs z.1 z.2 _ (F0 m pc ls (.int x :: .ref (mj_ad E o) :: rest.map (mj_cv E)))
    rw [ha]
    refine mj_putN hC.1 hC.2.1 hC.2.2.2.2.1 hin ty0 hty hnm hC.2.2.2.1 hC.2.2.2.2.2.2.2.2.1.1 hP mj_ws_D hS o ((mj_ws_at g2).trans (by rw [mj_ce_ob g1 ht])) hc k hk (va_Nw.use (mj_nt (List.all_eq_true.mp mj_nestN _ hl)) (hC.2.2.2.2.2.2.2.2.2.1.2.2.2.2 _ hl)) (fun x hx => by rw [hT.1] at hx; exact hx) hT.2.1 ((hty k hk).trans (by rw [hT.2.2])) rfl rfl (by simpa using hk) hdg ?_
    exact fun H1 locs1 hz1 hP1 hS1 => hK _ _ _ _ _ h h1 h2 H1 locs1 ls ⟨mj_putH g1 g2 ht hk hr hM hP1, hz1.trans hz, hM⟩ hS1 hL
  · exact h.elim
theorem sPutZN {t N k idx : Nat} {C host : String} {T : u_T} {ty0 : Nat → FieldType} (hdg : decode (mj_cc d) pc = .ok (.putfield idx, 3)) (hc : vwCl[t]? = some (C, T, N)) (hin : ∀ w ∈ u_ws C T N, w ∈ wsL_law) (hty : ∀ k, k < N → parseFieldDescriptor (T k).2.2.1 = some (ty0 k)) (hnm : ∀ a, a < N → ∀ b, b < N → a ≠ b → (T a).2.1 ≠ (T b).2.1) (hk : k < N) (hT : (T k).1 = C ∧ (T k).2.2.2 = false ∧ ty0 k = .boolean) (hl : Cond.fieldLinkNest (mj_y d).cls idx C (T k).2.1 (T k).2.2.1 host ∈ mj_nest) (hr : mj_rk t k = false) (ht : t < 11) : mj_S d pc (oPutZ (t, N) k) := by
  intro p l e s m args below meth c E post hC L st M z K h hK h1 h2 H locs ls hH hS hL
  unfold oPutZ at h
  split at h
  · rename_i x o rest
    obtain ⟨g1, g2, g3, h⟩ := h
    obtain ⟨hP, hz, hM⟩ := hH
    have ha := mj_ad_lt (E := E) g2 hM
    show W p l e _ s m args below meth c H locs z.1 z.2 _ (F0 m pc ls (.int x :: .ref (mj_ad E o) :: rest.map (mj_cv E)))
    rw [ha]
    refine mj_putN hC.1 hC.2.1 hC.2.2.2.2.1 hin ty0 hty hnm hC.2.2.2.1 hC.2.2.2.2.2.2.2.2.1.1 hP mj_ws_D hS o ((mj_ws_at g2).trans (by rw [mj_ce_ob g1 ht])) hc k hk (va_Nw.use (mj_nt (List.all_eq_true.mp mj_nestN _ hl)) (hC.2.2.2.2.2.2.2.2.2.1.2.2.2.2 _ hl)) (fun x hx => by rw [hT.1] at hx; exact hx) hT.2.1 ((hty k hk).trans (by rw [hT.2.2])) (by rcases g3 with rfl | rfl <;> rfl) (by rcases g3 with rfl | rfl <;> rfl) (by simpa using hk) hdg ?_
    exact fun H1 locs1 hz1 hP1 hS1 => hK _ _ _ _ _ h h1 h2 H1 locs1 ls ⟨mj_putH g1 g2 ht hk hr hM hP1, hz1.trans hz, hM⟩ hS1 hL
  · exact h.elim
theorem sGetsN {k idx : Nat} {host : String} (hdg : decode (mj_cc d) pc = .ok (.getstatic idx, 3)) (hk : k < 3) (hl : Cond.fieldLinkNest (mj_y d).cls idx "DebtorViews" (mj_xn k) "[I" host ∈ mj_nest) : mj_S d pc (oGets k) := by
  intro p l e s m args below meth c E post hC L st M z K h hK z1 z2 H locs ls hH hS hL
  refine va_getsN hC.1 hC.2.1 (hC.2.2.2.2.2.2.2.2.2.1.1 k hk).1 hS hC.2.2.2.1 (va_Nw.use (mj_nt (List.all_eq_true.mp mj_nestN _ hl)) (hC.2.2.2.2.2.2.2.2.2.1.2.2.2.2 _ hl)) (fun _ hx => hx) hdg ?_
  have h1 := hK _ _ _ _ _ h z1 z2 H locs ls hH hS hL
  rw [List.map_cons, mj_cvr, mj_adx] at h1
  exact h1
theorem sCSN {idx n : Nat} {d' : mj_D} {host : String} (hdg : decode (mj_cc d) pc = .ok (.invokestatic idx, 3))
    (m1 : Cond.methodLinkNest (mj_y d).cls idx (mj_y d') host ∈ mj_nest) (m2 : Cond.static (mj_y d') ∈ wsL_law) (m4 : Cond.initialized (mj_y d').cls ∈ wsL_law) (m5 : Cond.code (mj_y d') (mj_cc d') (mj_nl d') (mj_rt d') ∈ wsL_law)
    (hd : (mj_y d').cls ≠ "java/lang/invoke/MethodHandle" ∧ (mj_y d').cls ≠ "java/lang/invoke/VarHandle" ∧ (parseMethodDescriptor (mj_y d').desc).map (fun q => q.parameters.length) = some n)
    (hR : mj_fr d' + 1 ≤ mj_fr d ∧ 8 + (mj_nl d' + 11) + mj_lo d' ≤ mj_lo d) (hm : mj_mc d' = 0 ∧ mj_ms d' = 0) : mj_S d pc (oCS n d') := by
  intro p l e s m args below meth c E post hC L st M z K h hK h1 h2 H locs ls hH hS hL
  unfold oCS at h
  split at h
  · rename_i as rest hsp
    obtain ⟨g3, post', hM, h⟩ := h
    obtain ⟨rfl, hlen⟩ := mj_sp_eq _ _ _ _ hsp
    rw [mj_rev]
    have hcb : va_CN (mj_rm d) s args (mj_y d).cls idx (mj_y d') host (mj_cc d') (mj_nl d') (mj_rt d') (Cond.code (mj_y d') (mj_cc d') (mj_nl d') (mj_rt d') :: wsL_law) (mj_rm d') (mj_mc d') (mj_ms d') n :=
      va_cnB n hC.2.2.2.2.1 (wsL_gi (by
        intro w hw
        rcases List.mem_cons.mp hw with rfl | hw
        · exact m5
        · exact hw)) rfl rfl rfl (hC.2.2.2.2.2.2.2.2.2.1.2.2.2.2 _ m1) (hC.2.2.2.2.1 _ m4) hd hR
    have hrun := va_runSN (p := p) (l := l) (e := e) (below := below) (meth := meth) (H := H) (locs := locs) (cells := z.1) (slots := z.2) (g := F0 m pc ls ((as.map (mj_cv E)).reverse ++ rest.map (mj_cv E))) (As := as.map (mj_cv E)) (rest := rest.map (mj_cv E)) (cc := mj_cc d) (nL := mj_nl d) (Ts := wsL_law) ⟨hC.1, hC.2.1, hC.2.2.1, hC.2.2.2.1, hC.2.2.2.2.1⟩ (hM l E) ⟨hcb, hC.2.2.2.2.1 _ m2, trivial⟩
      ⟨mj_blind, fun U hU hW => ⟨rfl, mj_WU hC hH hS U hU hW⟩⟩
      rfl (by simpa using hlen) (hL.2.1) rfl (lv_room (by rw [mj_sum]; exact g3)) hdg ⟨by rw [hm.1]; exact h1, by rw [hm.2]; exact h2⟩
    refine mj_go hrun hS (fun r M' H1 locs1 hp hH1 hS1 => ?_)
    rw [mj_tl, hm.1, hm.2]
    exact hK _ _ _ _ _ (h r M' hp) h1 h2 H1 locs1 ls hH1 hS1 hL
  · exact h.elim
theorem sCIN {idx n : Nat} {d' : mj_D} {bc bs : Nat} {host : String} (hdg : decode (mj_cc d) pc = .ok (.invokespecial idx, 3)) (hb : bc = mj_mc d ∧ bs = mj_ms d)
    (m1 : Cond.methodLinkNest (mj_y d).cls idx (mj_y d') host ∈ mj_nest) (m2 : Cond.instanceMethod (mj_y d') ∈ wsL_law) (m4 : Cond.initialized (mj_y d').cls ∈ wsL_law) (m5 : Cond.code (mj_y d') (mj_cc d') (mj_nl d') none ∈ wsL_law) (hret : mj_rt d' = none) (hn : (mj_y d').name = "<init>")
    (hd : (mj_y d').cls ≠ "java/lang/invoke/MethodHandle" ∧ (mj_y d').cls ≠ "java/lang/invoke/VarHandle" ∧ (parseMethodDescriptor (mj_y d').desc).map (fun q => q.parameters.length) = some n)
    (hR : mj_fr d' + 1 ≤ mj_fr d ∧ 8 + (mj_nl d' + 11) + mj_lo d' ≤ mj_lo d) : mj_S d pc (oCI n d' bc bs) := by
  intro p l e s m args below meth c E post hC L st M z K h hK h1 h2 H locs ls hH hS hL
  unfold oCI at h
  split at h
  · rename_i as o rest hsp
    obtain ⟨g3, g4, g5, post', hM, h⟩ := h
    obtain ⟨rfl, hlen⟩ := mj_sp_eq _ _ _ _ hsp
    rw [mj_rev]
    have hMM := hM l E
    rw [hret] at hMM
    have hcb : va_CN (mj_rm d) s args (mj_y d).cls idx (mj_y d') host (mj_cc d') (mj_nl d') none (Cond.code (mj_y d') (mj_cc d') (mj_nl d') none :: wsL_law) (mj_rm d') (mj_mc d') (mj_ms d') n :=
      va_cnB n hC.2.2.2.2.1 (wsL_gi (by
        intro w hw
        rcases List.mem_cons.mp hw with rfl | hw
        · exact m5
        · exact hw)) rfl rfl rfl (hC.2.2.2.2.2.2.2.2.2.1.2.2.2.2 _ m1) (hC.2.2.2.2.1 _ m4) hd hR
    have hrun := va_runIN (p := p) (l := l) (e := e) (below := below) (meth := meth) (H := H) (locs := locs) (cells := z.1) (slots := z.2) (g := F0 m pc ls ((as.map (mj_cv E)).reverse ++ .ref (mj_ad E o) :: rest.map (mj_cv E))) (b := mj_ad E o) (As := as.map (mj_cv E)) (rest := rest.map (mj_cv E)) (cc := mj_cc d) (nL := mj_nl d) (Ts := wsL_law) ⟨hC.1, hC.2.1, hC.2.2.1, hC.2.2.2.1, hC.2.2.2.2.1⟩ hMM ⟨hcb, hn, hC.2.2.2.2.1 _ m2⟩
      ⟨mj_blind, fun U hU hW => ⟨rfl, mj_WU hC hH hS U hU hW⟩⟩
      rfl (by simpa using hlen) (hL.2.1) rfl (lv_room (by rw [mj_sum]; exact g3)) hdg ⟨by rw [hb.1] at g4; exact g4, by rw [hb.2] at g5; exact g5⟩
    show W p l e _ s m args below meth c H locs z.1 z.2 _ (F0 m pc ls ((as.map (mj_cv E)).reverse ++ (mj_cv E (.inr (some o))) :: rest.map (mj_cv E)))
    rw [mj_cvr]
    refine mj_go hrun hS (fun r M' H1 locs1 hp hH1 hS1 => ?_)
    rw [mj_tl]
    exact hK _ _ _ _ _ (h r M' hp) (by rw [hb.1] at g4; exact g4) (by rw [hb.2] at g5; exact g5) H1 locs1 ls hH1 hS1 hL
  · exact h.elim
end MJN
end

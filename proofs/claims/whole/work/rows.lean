section
-- ===== PART A: goes FIRST, ahead of the names: the tables' words, and 'selects' of the private methods out of them =====
/-- a private method of a class that the tables say can be made, by its rows of tables_1 -/
def lw_okq (q : MethodName × Nat) : Prop := (q.1.cls ≠ "java/lang/invoke/MethodHandle" ∧ q.1.cls ≠ "java/lang/invoke/VarHandle") ∧ Cond.instantiable q.1.cls q.2 ∈ tables_1 ∧ Cond.privateMethod q.1 ∈ tables_1 ∧ Cond.instanceMethod q.1 ∈ tables_1
theorem lw_p0 : lw_okq (⟨"PledgedLoans", "saveState", "()V"⟩, 9) := ⟨⟨by decide +kernel, by decide +kernel⟩, List.mem_of_getElem? (i := 15) (by decide +kernel), List.mem_of_getElem? (i := 154) (by decide +kernel), List.mem_of_getElem? (i := 155) (by decide +kernel)⟩
theorem lw_p1 : lw_okq (⟨"PledgedLoans", "dropOldest", "()V"⟩, 9) := ⟨⟨by decide +kernel, by decide +kernel⟩, List.mem_of_getElem? (i := 15) (by decide +kernel), List.mem_of_getElem? (i := 158) (by decide +kernel), List.mem_of_getElem? (i := 159) (by decide +kernel)⟩
theorem lw_p2 : lw_okq (⟨"PledgedLoans", "readToError", "()I"⟩, 9) := ⟨⟨by decide +kernel, by decide +kernel⟩, List.mem_of_getElem? (i := 15) (by decide +kernel), List.mem_of_getElem? (i := 195) (by decide +kernel), List.mem_of_getElem? (i := 196) (by decide +kernel)⟩
theorem lw_p3 : lw_okq (⟨"PledgedLoans$OrderReader", "takeEnd", "()Z"⟩, 6) := ⟨⟨by decide +kernel, by decide +kernel⟩, List.mem_of_getElem? (i := 90) (by decide +kernel), List.mem_of_getElem? (i := 207) (by decide +kernel), List.mem_of_getElem? (i := 208) (by decide +kernel)⟩
theorem lw_p4 : lw_okq (⟨"PledgedLoans$OrderReader", "takeKind", "(C)Z"⟩, 6) := ⟨⟨by decide +kernel, by decide +kernel⟩, List.mem_of_getElem? (i := 90) (by decide +kernel), List.mem_of_getElem? (i := 216) (by decide +kernel), List.mem_of_getElem? (i := 217) (by decide +kernel)⟩
theorem lw_p5 : lw_okq (⟨"PledgedLoans$OrderReader", "takeMember", "(C)Z"⟩, 6) := ⟨⟨by decide +kernel, by decide +kernel⟩, List.mem_of_getElem? (i := 90) (by decide +kernel), List.mem_of_getElem? (i := 220) (by decide +kernel), List.mem_of_getElem? (i := 221) (by decide +kernel)⟩
theorem lw_p6 : lw_okq (⟨"PledgedLoans$OrderReader", "takeMark", "(CCI)Z"⟩, 6) := ⟨⟨by decide +kernel, by decide +kernel⟩, List.mem_of_getElem? (i := 90) (by decide +kernel), List.mem_of_getElem? (i := 227) (by decide +kernel), List.mem_of_getElem? (i := 228) (by decide +kernel)⟩
theorem lw_p7 : lw_okq (⟨"PledgedLoans$OrderReader", "takeBorrower", "(C)Z"⟩, 6) := ⟨⟨by decide +kernel, by decide +kernel⟩, List.mem_of_getElem? (i := 90) (by decide +kernel), List.mem_of_getElem? (i := 231) (by decide +kernel), List.mem_of_getElem? (i := 232) (by decide +kernel)⟩
theorem lw_p8 : lw_okq (⟨"PledgedLoans$OrderReader", "takeAmount", "(C)Z"⟩, 6) := ⟨⟨by decide +kernel, by decide +kernel⟩, List.mem_of_getElem? (i := 90) (by decide +kernel), List.mem_of_getElem? (i := 235) (by decide +kernel), List.mem_of_getElem? (i := 236) (by decide +kernel)⟩
theorem lw_p9 : lw_okq (⟨"PledgedLoans$OrderReader", "takeWeeks", "(C)Z"⟩, 6) := ⟨⟨by decide +kernel, by decide +kernel⟩, List.mem_of_getElem? (i := 90) (by decide +kernel), List.mem_of_getElem? (i := 242) (by decide +kernel), List.mem_of_getElem? (i := 243) (by decide +kernel)⟩
theorem lw_p10 : lw_okq (⟨"PledgedLoans", "number", "(I)I"⟩, 9) := ⟨⟨by decide +kernel, by decide +kernel⟩, List.mem_of_getElem? (i := 15) (by decide +kernel), List.mem_of_getElem? (i := 288) (by decide +kernel), List.mem_of_getElem? (i := 289) (by decide +kernel)⟩
theorem lw_p11 : lw_okq (⟨"PledgedLoans", "digestOfMember", "(JI)J"⟩, 9) := ⟨⟨by decide +kernel, by decide +kernel⟩, List.mem_of_getElem? (i := 15) (by decide +kernel), List.mem_of_getElem? (i := 298) (by decide +kernel), List.mem_of_getElem? (i := 299) (by decide +kernel)⟩
theorem lw_p12 : lw_okq (⟨"PledgedLoans", "greatestByHalving", "(I)I"⟩, 9) := ⟨⟨by decide +kernel, by decide +kernel⟩, List.mem_of_getElem? (i := 15) (by decide +kernel), List.mem_of_getElem? (i := 324) (by decide +kernel), List.mem_of_getElem? (i := 325) (by decide +kernel)⟩
theorem lw_p13 : lw_okq (⟨"PledgedLoans", "greatestByAll", "(I)I"⟩, 9) := ⟨⟨by decide +kernel, by decide +kernel⟩, List.mem_of_getElem? (i := 15) (by decide +kernel), List.mem_of_getElem? (i := 344) (by decide +kernel), List.mem_of_getElem? (i := 345) (by decide +kernel)⟩
theorem lw_p14 : lw_okq (⟨"PledgedLoans", "fewestByGreatest", "(II)I"⟩, 9) := ⟨⟨by decide +kernel, by decide +kernel⟩, List.mem_of_getElem? (i := 15) (by decide +kernel), List.mem_of_getElem? (i := 352) (by decide +kernel), List.mem_of_getElem? (i := 353) (by decide +kernel)⟩
theorem lw_p15 : lw_okq (⟨"PledgedLoans", "fillFree", "()V"⟩, 9) := ⟨⟨by decide +kernel, by decide +kernel⟩, List.mem_of_getElem? (i := 15) (by decide +kernel), List.mem_of_getElem? (i := 356) (by decide +kernel), List.mem_of_getElem? (i := 357) (by decide +kernel)⟩
def lw_privs_1 : List (MethodName × Nat) := [(⟨"PledgedLoans", "saveState", "()V"⟩, 9), (⟨"PledgedLoans", "dropOldest", "()V"⟩, 9), (⟨"PledgedLoans", "readToError", "()I"⟩, 9), (⟨"PledgedLoans$OrderReader", "takeEnd", "()Z"⟩, 6), (⟨"PledgedLoans$OrderReader", "takeKind", "(C)Z"⟩, 6), (⟨"PledgedLoans$OrderReader", "takeMember", "(C)Z"⟩, 6), (⟨"PledgedLoans$OrderReader", "takeMark", "(CCI)Z"⟩, 6), (⟨"PledgedLoans$OrderReader", "takeBorrower", "(C)Z"⟩, 6), (⟨"PledgedLoans$OrderReader", "takeAmount", "(C)Z"⟩, 6), (⟨"PledgedLoans$OrderReader", "takeWeeks", "(C)Z"⟩, 6), (⟨"PledgedLoans", "number", "(I)I"⟩, 9), (⟨"PledgedLoans", "digestOfMember", "(JI)J"⟩, 9), (⟨"PledgedLoans", "greatestByHalving", "(I)I"⟩, 9), (⟨"PledgedLoans", "greatestByAll", "(I)I"⟩, 9), (⟨"PledgedLoans", "fewestByGreatest", "(II)I"⟩, 9), (⟨"PledgedLoans", "fillFree", "()V"⟩, 9)]
theorem lw_r1 : ∀ q ∈ lw_privs_1, lw_okq q := List.forall_mem_cons.mpr ⟨lw_p0, List.forall_mem_cons.mpr ⟨lw_p1, List.forall_mem_cons.mpr ⟨lw_p2, List.forall_mem_cons.mpr ⟨lw_p3, List.forall_mem_cons.mpr ⟨lw_p4, List.forall_mem_cons.mpr ⟨lw_p5, List.forall_mem_cons.mpr ⟨lw_p6, List.forall_mem_cons.mpr ⟨lw_p7, List.forall_mem_cons.mpr ⟨lw_p8, List.forall_mem_cons.mpr ⟨lw_p9, List.forall_mem_cons.mpr ⟨lw_p10, List.forall_mem_cons.mpr ⟨lw_p11, List.forall_mem_cons.mpr ⟨lw_p12, List.forall_mem_cons.mpr ⟨lw_p13, List.forall_mem_cons.mpr ⟨lw_p14, List.forall_mem_cons.mpr ⟨lw_p15, fun _ h => absurd h List.not_mem_nil⟩⟩⟩⟩⟩⟩⟩⟩⟩⟩⟩⟩⟩⟩⟩⟩
theorem lw_p16 : lw_okq (⟨"PledgedLoans", "freest", "(I)I"⟩, 9) := ⟨⟨by decide +kernel, by decide +kernel⟩, List.mem_of_getElem? (i := 15) (by decide +kernel), List.mem_of_getElem? (i := 361) (by decide +kernel), List.mem_of_getElem? (i := 362) (by decide +kernel)⟩
theorem lw_p17 : lw_okq (⟨"PledgedLoans", "fewestBySets", "(II)I"⟩, 9) := ⟨⟨by decide +kernel, by decide +kernel⟩, List.mem_of_getElem? (i := 15) (by decide +kernel), List.mem_of_getElem? (i := 365) (by decide +kernel), List.mem_of_getElem? (i := 366) (by decide +kernel)⟩
theorem lw_p18 : lw_okq (⟨"PledgedLoans", "freeOf", "(I)I"⟩, 9) := ⟨⟨by decide +kernel, by decide +kernel⟩, List.mem_of_getElem? (i := 15) (by decide +kernel), List.mem_of_getElem? (i := 375) (by decide +kernel), List.mem_of_getElem? (i := 376) (by decide +kernel)⟩
theorem lw_p19 : lw_okq (⟨"java/lang/Throwable", "fillInStackTrace", "(I)Ljava/lang/Throwable;"⟩, 6) := ⟨⟨by decide +kernel, by decide +kernel⟩, List.mem_of_getElem? (i := 444) (by decide +kernel), List.mem_of_getElem? (i := 442) (by decide +kernel), List.mem_of_getElem? (i := 443) (by decide +kernel)⟩
theorem lw_p20 : lw_okq (⟨"PledgedLoans$Books", "endWeekOf", "(I)Z"⟩, 16) := ⟨⟨by decide +kernel, by decide +kernel⟩, List.mem_of_getElem? (i := 23) (by decide +kernel), List.mem_of_getElem? (i := 594) (by decide +kernel), List.mem_of_getElem? (i := 595) (by decide +kernel)⟩
theorem lw_p21 : lw_okq (⟨"PledgedLoans$Books", "takeDue", "(I)V"⟩, 16) := ⟨⟨by decide +kernel, by decide +kernel⟩, List.mem_of_getElem? (i := 23) (by decide +kernel), List.mem_of_getElem? (i := 598) (by decide +kernel), List.mem_of_getElem? (i := 599) (by decide +kernel)⟩
theorem lw_p22 : lw_okq (⟨"PledgedLoans", "doOrders", "()I"⟩, 9) := ⟨⟨by decide +kernel, by decide +kernel⟩, List.mem_of_getElem? (i := 15) (by decide +kernel), List.mem_of_getElem? (i := 647) (by decide +kernel), List.mem_of_getElem? (i := 648) (by decide +kernel)⟩
theorem lw_p23 : lw_okq (⟨"PledgedLoans", "doOrder", "()Z"⟩, 9) := ⟨⟨by decide +kernel, by decide +kernel⟩, List.mem_of_getElem? (i := 15) (by decide +kernel), List.mem_of_getElem? (i := 651) (by decide +kernel), List.mem_of_getElem? (i := 652) (by decide +kernel)⟩
theorem lw_p24 : lw_okq (⟨"PledgedLoansModel", "isDeed", "(II)Z"⟩, 14) := ⟨⟨by decide +kernel, by decide +kernel⟩, List.mem_of_getElem? (i := 741) (by decide +kernel), List.mem_of_getElem? (i := 798) (by decide +kernel), List.mem_of_getElem? (i := 799) (by decide +kernel)⟩
theorem lw_p25 : lw_okq (⟨"PledgedLoansModel", "holds", "(I)Z"⟩, 14) := ⟨⟨by decide +kernel, by decide +kernel⟩, List.mem_of_getElem? (i := 741) (by decide +kernel), List.mem_of_getElem? (i := 811) (by decide +kernel), List.mem_of_getElem? (i := 812) (by decide +kernel)⟩
theorem lw_p26 : lw_okq (⟨"PledgedLoansModel", "save", "()V"⟩, 14) := ⟨⟨by decide +kernel, by decide +kernel⟩, List.mem_of_getElem? (i := 741) (by decide +kernel), List.mem_of_getElem? (i := 815) (by decide +kernel), List.mem_of_getElem? (i := 816) (by decide +kernel)⟩
theorem lw_p27 : lw_okq (⟨"PledgedLoansModel", "copies", "(II)V"⟩, 14) := ⟨⟨by decide +kernel, by decide +kernel⟩, List.mem_of_getElem? (i := 741) (by decide +kernel), List.mem_of_getElem? (i := 819) (by decide +kernel), List.mem_of_getElem? (i := 820) (by decide +kernel)⟩
theorem lw_p28 : lw_okq (⟨"PledgedLoansModel", "paysIn", "(II)I"⟩, 14) := ⟨⟨by decide +kernel, by decide +kernel⟩, List.mem_of_getElem? (i := 741) (by decide +kernel), List.mem_of_getElem? (i := 823) (by decide +kernel), List.mem_of_getElem? (i := 824) (by decide +kernel)⟩
theorem lw_p29 : lw_okq (⟨"PledgedLoansModel", "of", "(II)I"⟩, 14) := ⟨⟨by decide +kernel, by decide +kernel⟩, List.mem_of_getElem? (i := 741) (by decide +kernel), List.mem_of_getElem? (i := 827) (by decide +kernel), List.mem_of_getElem? (i := 828) (by decide +kernel)⟩
theorem lw_p30 : lw_okq (⟨"PledgedLoansModel", "refuses", "(I)I"⟩, 14) := ⟨⟨by decide +kernel, by decide +kernel⟩, List.mem_of_getElem? (i := 741) (by decide +kernel), List.mem_of_getElem? (i := 832) (by decide +kernel), List.mem_of_getElem? (i := 833) (by decide +kernel)⟩
theorem lw_p31 : lw_okq (⟨"PledgedLoansModel", "adds", "(III)V"⟩, 14) := ⟨⟨by decide +kernel, by decide +kernel⟩, List.mem_of_getElem? (i := 741) (by decide +kernel), List.mem_of_getElem? (i := 836) (by decide +kernel), List.mem_of_getElem? (i := 837) (by decide +kernel)⟩
def lw_privs_2 : List (MethodName × Nat) := [(⟨"PledgedLoans", "freest", "(I)I"⟩, 9), (⟨"PledgedLoans", "fewestBySets", "(II)I"⟩, 9), (⟨"PledgedLoans", "freeOf", "(I)I"⟩, 9), (⟨"java/lang/Throwable", "fillInStackTrace", "(I)Ljava/lang/Throwable;"⟩, 6), (⟨"PledgedLoans$Books", "endWeekOf", "(I)Z"⟩, 16), (⟨"PledgedLoans$Books", "takeDue", "(I)V"⟩, 16), (⟨"PledgedLoans", "doOrders", "()I"⟩, 9), (⟨"PledgedLoans", "doOrder", "()Z"⟩, 9), (⟨"PledgedLoansModel", "isDeed", "(II)Z"⟩, 14), (⟨"PledgedLoansModel", "holds", "(I)Z"⟩, 14), (⟨"PledgedLoansModel", "save", "()V"⟩, 14), (⟨"PledgedLoansModel", "copies", "(II)V"⟩, 14), (⟨"PledgedLoansModel", "paysIn", "(II)I"⟩, 14), (⟨"PledgedLoansModel", "of", "(II)I"⟩, 14), (⟨"PledgedLoansModel", "refuses", "(I)I"⟩, 14), (⟨"PledgedLoansModel", "adds", "(III)V"⟩, 14)]
theorem lw_r2 : ∀ q ∈ lw_privs_2, lw_okq q := List.forall_mem_cons.mpr ⟨lw_p16, List.forall_mem_cons.mpr ⟨lw_p17, List.forall_mem_cons.mpr ⟨lw_p18, List.forall_mem_cons.mpr ⟨lw_p19, List.forall_mem_cons.mpr ⟨lw_p20, List.forall_mem_cons.mpr ⟨lw_p21, List.forall_mem_cons.mpr ⟨lw_p22, List.forall_mem_cons.mpr ⟨lw_p23, List.forall_mem_cons.mpr ⟨lw_p24, List.forall_mem_cons.mpr ⟨lw_p25, List.forall_mem_cons.mpr ⟨lw_p26, List.forall_mem_cons.mpr ⟨lw_p27, List.forall_mem_cons.mpr ⟨lw_p28, List.forall_mem_cons.mpr ⟨lw_p29, List.forall_mem_cons.mpr ⟨lw_p30, List.forall_mem_cons.mpr ⟨lw_p31, fun _ h => absurd h List.not_mem_nil⟩⟩⟩⟩⟩⟩⟩⟩⟩⟩⟩⟩⟩⟩⟩⟩
theorem lw_p32 : lw_okq (⟨"PledgedLoansModel", "paysOut", "(II)I"⟩, 14) := ⟨⟨by decide +kernel, by decide +kernel⟩, List.mem_of_getElem? (i := 741) (by decide +kernel), List.mem_of_getElem? (i := 844) (by decide +kernel), List.mem_of_getElem? (i := 845) (by decide +kernel)⟩
theorem lw_p33 : lw_okq (⟨"PledgedLoansModel", "free", "(I)I"⟩, 14) := ⟨⟨by decide +kernel, by decide +kernel⟩, List.mem_of_getElem? (i := 741) (by decide +kernel), List.mem_of_getElem? (i := 848) (by decide +kernel), List.mem_of_getElem? (i := 849) (by decide +kernel)⟩
theorem lw_p34 : lw_okq (⟨"PledgedLoansModel", "pledgedFor", "(I)I"⟩, 14) := ⟨⟨by decide +kernel, by decide +kernel⟩, List.mem_of_getElem? (i := 741) (by decide +kernel), List.mem_of_getElem? (i := 852) (by decide +kernel), List.mem_of_getElem? (i := 853) (by decide +kernel)⟩
theorem lw_p35 : lw_okq (⟨"PledgedLoansModel", "pledgeOf", "(II)I"⟩, 14) := ⟨⟨by decide +kernel, by decide +kernel⟩, List.mem_of_getElem? (i := 741) (by decide +kernel), List.mem_of_getElem? (i := 856) (by decide +kernel), List.mem_of_getElem? (i := 857) (by decide +kernel)⟩
theorem lw_p36 : lw_okq (⟨"PledgedLoansModel", "own", "(I)I"⟩, 14) := ⟨⟨by decide +kernel, by decide +kernel⟩, List.mem_of_getElem? (i := 741) (by decide +kernel), List.mem_of_getElem? (i := 860) (by decide +kernel), List.mem_of_getElem? (i := 861) (by decide +kernel)⟩
theorem lw_p37 : lw_okq (⟨"PledgedLoansModel", "pledgedBy", "(I)I"⟩, 14) := ⟨⟨by decide +kernel, by decide +kernel⟩, List.mem_of_getElem? (i := 741) (by decide +kernel), List.mem_of_getElem? (i := 864) (by decide +kernel), List.mem_of_getElem? (i := 865) (by decide +kernel)⟩
theorem lw_p38 : lw_okq (⟨"PledgedLoansModel", "isPair", "(III)Z"⟩, 14) := ⟨⟨by decide +kernel, by decide +kernel⟩, List.mem_of_getElem? (i := 741) (by decide +kernel), List.mem_of_getElem? (i := 872) (by decide +kernel), List.mem_of_getElem? (i := 873) (by decide +kernel)⟩
theorem lw_p39 : lw_okq (⟨"PledgedLoansModel", "pledges", "(III)I"⟩, 14) := ⟨⟨by decide +kernel, by decide +kernel⟩, List.mem_of_getElem? (i := 741) (by decide +kernel), List.mem_of_getElem? (i := 876) (by decide +kernel), List.mem_of_getElem? (i := 877) (by decide +kernel)⟩
theorem lw_p40 : lw_okq (⟨"PledgedLoansModel", "takesBack", "(III)I"⟩, 14) := ⟨⟨by decide +kernel, by decide +kernel⟩, List.mem_of_getElem? (i := 741) (by decide +kernel), List.mem_of_getElem? (i := 884) (by decide +kernel), List.mem_of_getElem? (i := 885) (by decide +kernel)⟩
theorem lw_p41 : lw_okq (⟨"PledgedLoansModel", "cover", "(I)I"⟩, 14) := ⟨⟨by decide +kernel, by decide +kernel⟩, List.mem_of_getElem? (i := 741) (by decide +kernel), List.mem_of_getElem? (i := 888) (by decide +kernel), List.mem_of_getElem? (i := 889) (by decide +kernel)⟩
theorem lw_p42 : lw_okq (⟨"PledgedLoansModel", "lends", "(III)I"⟩, 14) := ⟨⟨by decide +kernel, by decide +kernel⟩, List.mem_of_getElem? (i := 741) (by decide +kernel), List.mem_of_getElem? (i := 896) (by decide +kernel), List.mem_of_getElem? (i := 897) (by decide +kernel)⟩
theorem lw_p43 : lw_okq (⟨"PledgedLoansModel", "reason", "(II)I"⟩, 14) := ⟨⟨by decide +kernel, by decide +kernel⟩, List.mem_of_getElem? (i := 741) (by decide +kernel), List.mem_of_getElem? (i := 900) (by decide +kernel), List.mem_of_getElem? (i := 901) (by decide +kernel)⟩
theorem lw_p44 : lw_okq (⟨"PledgedLoansModel", "repays", "(II)I"⟩, 14) := ⟨⟨by decide +kernel, by decide +kernel⟩, List.mem_of_getElem? (i := 741) (by decide +kernel), List.mem_of_getElem? (i := 911) (by decide +kernel), List.mem_of_getElem? (i := 912) (by decide +kernel)⟩
theorem lw_p45 : lw_okq (⟨"PledgedLoansModel", "endsWeek", "()I"⟩, 14) := ⟨⟨by decide +kernel, by decide +kernel⟩, List.mem_of_getElem? (i := 741) (by decide +kernel), List.mem_of_getElem? (i := 919) (by decide +kernel), List.mem_of_getElem? (i := 920) (by decide +kernel)⟩
theorem lw_p46 : lw_okq (⟨"PledgedLoansModel", "fallsDue", "(I)V"⟩, 14) := ⟨⟨by decide +kernel, by decide +kernel⟩, List.mem_of_getElem? (i := 741) (by decide +kernel), List.mem_of_getElem? (i := 923) (by decide +kernel), List.mem_of_getElem? (i := 924) (by decide +kernel)⟩
theorem lw_p47 : lw_okq (⟨"PledgedLoansModel", "takes", "(III)I"⟩, 14) := ⟨⟨by decide +kernel, by decide +kernel⟩, List.mem_of_getElem? (i := 741) (by decide +kernel), List.mem_of_getElem? (i := 927) (by decide +kernel), List.mem_of_getElem? (i := 928) (by decide +kernel)⟩
def lw_privs_3 : List (MethodName × Nat) := [(⟨"PledgedLoansModel", "paysOut", "(II)I"⟩, 14), (⟨"PledgedLoansModel", "free", "(I)I"⟩, 14), (⟨"PledgedLoansModel", "pledgedFor", "(I)I"⟩, 14), (⟨"PledgedLoansModel", "pledgeOf", "(II)I"⟩, 14), (⟨"PledgedLoansModel", "own", "(I)I"⟩, 14), (⟨"PledgedLoansModel", "pledgedBy", "(I)I"⟩, 14), (⟨"PledgedLoansModel", "isPair", "(III)Z"⟩, 14), (⟨"PledgedLoansModel", "pledges", "(III)I"⟩, 14), (⟨"PledgedLoansModel", "takesBack", "(III)I"⟩, 14), (⟨"PledgedLoansModel", "cover", "(I)I"⟩, 14), (⟨"PledgedLoansModel", "lends", "(III)I"⟩, 14), (⟨"PledgedLoansModel", "reason", "(II)I"⟩, 14), (⟨"PledgedLoansModel", "repays", "(II)I"⟩, 14), (⟨"PledgedLoansModel", "endsWeek", "()I"⟩, 14), (⟨"PledgedLoansModel", "fallsDue", "(I)V"⟩, 14), (⟨"PledgedLoansModel", "takes", "(III)I"⟩, 14)]
theorem lw_r3 : ∀ q ∈ lw_privs_3, lw_okq q := List.forall_mem_cons.mpr ⟨lw_p32, List.forall_mem_cons.mpr ⟨lw_p33, List.forall_mem_cons.mpr ⟨lw_p34, List.forall_mem_cons.mpr ⟨lw_p35, List.forall_mem_cons.mpr ⟨lw_p36, List.forall_mem_cons.mpr ⟨lw_p37, List.forall_mem_cons.mpr ⟨lw_p38, List.forall_mem_cons.mpr ⟨lw_p39, List.forall_mem_cons.mpr ⟨lw_p40, List.forall_mem_cons.mpr ⟨lw_p41, List.forall_mem_cons.mpr ⟨lw_p42, List.forall_mem_cons.mpr ⟨lw_p43, List.forall_mem_cons.mpr ⟨lw_p44, List.forall_mem_cons.mpr ⟨lw_p45, List.forall_mem_cons.mpr ⟨lw_p46, List.forall_mem_cons.mpr ⟨lw_p47, fun _ h => absurd h List.not_mem_nil⟩⟩⟩⟩⟩⟩⟩⟩⟩⟩⟩⟩⟩⟩⟩⟩
theorem lw_p48 : lw_okq (⟨"PledgedLoansModel", "allDays", "()J"⟩, 14) := ⟨⟨by decide +kernel, by decide +kernel⟩, List.mem_of_getElem? (i := 741) (by decide +kernel), List.mem_of_getElem? (i := 940) (by decide +kernel), List.mem_of_getElem? (i := 941) (by decide +kernel)⟩
theorem lw_p49 : lw_okq (⟨"PledgedLoansModel", "share", "(I)I"⟩, 14) := ⟨⟨by decide +kernel, by decide +kernel⟩, List.mem_of_getElem? (i := 741) (by decide +kernel), List.mem_of_getElem? (i := 944) (by decide +kernel), List.mem_of_getElem? (i := 945) (by decide +kernel)⟩
theorem lw_p50 : lw_okq (⟨"PledgedLoansModel", "areOrders", "()Z"⟩, 14) := ⟨⟨by decide +kernel, by decide +kernel⟩, List.mem_of_getElem? (i := 741) (by decide +kernel), List.mem_of_getElem? (i := 964) (by decide +kernel), List.mem_of_getElem? (i := 965) (by decide +kernel)⟩
theorem lw_p51 : lw_okq (⟨"PledgedLoansModel", "readsOrder", "()Z"⟩, 14) := ⟨⟨by decide +kernel, by decide +kernel⟩, List.mem_of_getElem? (i := 741) (by decide +kernel), List.mem_of_getElem? (i := 968) (by decide +kernel), List.mem_of_getElem? (i := 969) (by decide +kernel)⟩
theorem lw_p52 : lw_okq (⟨"PledgedLoansModel", "sign", "()I"⟩, 14) := ⟨⟨by decide +kernel, by decide +kernel⟩, List.mem_of_getElem? (i := 741) (by decide +kernel), List.mem_of_getElem? (i := 972) (by decide +kernel), List.mem_of_getElem? (i := 973) (by decide +kernel)⟩
theorem lw_p53 : lw_okq (⟨"PledgedLoansModel", "takesSign", "(I)Z"⟩, 14) := ⟨⟨by decide +kernel, by decide +kernel⟩, List.mem_of_getElem? (i := 741) (by decide +kernel), List.mem_of_getElem? (i := 976) (by decide +kernel), List.mem_of_getElem? (i := 977) (by decide +kernel)⟩
theorem lw_p54 : lw_okq (⟨"PledgedLoansModel", "readsMember", "(I)I"⟩, 14) := ⟨⟨by decide +kernel, by decide +kernel⟩, List.mem_of_getElem? (i := 741) (by decide +kernel), List.mem_of_getElem? (i := 980) (by decide +kernel), List.mem_of_getElem? (i := 981) (by decide +kernel)⟩
theorem lw_p55 : lw_okq (⟨"PledgedLoansModel", "readsNumber", "(I)I"⟩, 14) := ⟨⟨by decide +kernel, by decide +kernel⟩, List.mem_of_getElem? (i := 741) (by decide +kernel), List.mem_of_getElem? (i := 984) (by decide +kernel), List.mem_of_getElem? (i := 985) (by decide +kernel)⟩
theorem lw_p56 : lw_okq (⟨"PledgedLoansModel", "does", "()V"⟩, 14) := ⟨⟨by decide +kernel, by decide +kernel⟩, List.mem_of_getElem? (i := 741) (by decide +kernel), List.mem_of_getElem? (i := 992) (by decide +kernel), List.mem_of_getElem? (i := 993) (by decide +kernel)⟩
theorem lw_p57 : lw_okq (⟨"PledgedLoansModel", "loans", "()I"⟩, 14) := ⟨⟨by decide +kernel, by decide +kernel⟩, List.mem_of_getElem? (i := 741) (by decide +kernel), List.mem_of_getElem? (i := 1000) (by decide +kernel), List.mem_of_getElem? (i := 1001) (by decide +kernel)⟩
theorem lw_p58 : lw_okq (⟨"PledgedLoansModel", "property", "(II)I"⟩, 14) := ⟨⟨by decide +kernel, by decide +kernel⟩, List.mem_of_getElem? (i := 741) (by decide +kernel), List.mem_of_getElem? (i := 1016) (by decide +kernel), List.mem_of_getElem? (i := 1017) (by decide +kernel)⟩
theorem lw_p59 : lw_okq (⟨"PledgedLoansModel", "counted", "(I)I"⟩, 14) := ⟨⟨by decide +kernel, by decide +kernel⟩, List.mem_of_getElem? (i := 741) (by decide +kernel), List.mem_of_getElem? (i := 1028) (by decide +kernel), List.mem_of_getElem? (i := 1029) (by decide +kernel)⟩
theorem lw_p60 : lw_okq (⟨"PledgedLoansModel", "total", "(I)I"⟩, 14) := ⟨⟨by decide +kernel, by decide +kernel⟩, List.mem_of_getElem? (i := 741) (by decide +kernel), List.mem_of_getElem? (i := 1032) (by decide +kernel), List.mem_of_getElem? (i := 1033) (by decide +kernel)⟩
theorem lw_p61 : lw_okq (⟨"PledgedLoansModel", "most", "(I)I"⟩, 14) := ⟨⟨by decide +kernel, by decide +kernel⟩, List.mem_of_getElem? (i := 741) (by decide +kernel), List.mem_of_getElem? (i := 1048) (by decide +kernel), List.mem_of_getElem? (i := 1049) (by decide +kernel)⟩
theorem lw_p62 : lw_okq (⟨"PledgedLoansModel", "fewest", "(II)I"⟩, 14) := ⟨⟨by decide +kernel, by decide +kernel⟩, List.mem_of_getElem? (i := 741) (by decide +kernel), List.mem_of_getElem? (i := 1056) (by decide +kernel), List.mem_of_getElem? (i := 1057) (by decide +kernel)⟩
theorem lw_p63 : lw_okq (⟨"PledgedLoansModel", "lasts", "(I)I"⟩, 14) := ⟨⟨by decide +kernel, by decide +kernel⟩, List.mem_of_getElem? (i := 741) (by decide +kernel), List.mem_of_getElem? (i := 1064) (by decide +kernel), List.mem_of_getElem? (i := 1065) (by decide +kernel)⟩
def lw_privs_4 : List (MethodName × Nat) := [(⟨"PledgedLoansModel", "allDays", "()J"⟩, 14), (⟨"PledgedLoansModel", "share", "(I)I"⟩, 14), (⟨"PledgedLoansModel", "areOrders", "()Z"⟩, 14), (⟨"PledgedLoansModel", "readsOrder", "()Z"⟩, 14), (⟨"PledgedLoansModel", "sign", "()I"⟩, 14), (⟨"PledgedLoansModel", "takesSign", "(I)Z"⟩, 14), (⟨"PledgedLoansModel", "readsMember", "(I)I"⟩, 14), (⟨"PledgedLoansModel", "readsNumber", "(I)I"⟩, 14), (⟨"PledgedLoansModel", "does", "()V"⟩, 14), (⟨"PledgedLoansModel", "loans", "()I"⟩, 14), (⟨"PledgedLoansModel", "property", "(II)I"⟩, 14), (⟨"PledgedLoansModel", "counted", "(I)I"⟩, 14), (⟨"PledgedLoansModel", "total", "(I)I"⟩, 14), (⟨"PledgedLoansModel", "most", "(I)I"⟩, 14), (⟨"PledgedLoansModel", "fewest", "(II)I"⟩, 14), (⟨"PledgedLoansModel", "lasts", "(I)I"⟩, 14)]
theorem lw_r4 : ∀ q ∈ lw_privs_4, lw_okq q := List.forall_mem_cons.mpr ⟨lw_p48, List.forall_mem_cons.mpr ⟨lw_p49, List.forall_mem_cons.mpr ⟨lw_p50, List.forall_mem_cons.mpr ⟨lw_p51, List.forall_mem_cons.mpr ⟨lw_p52, List.forall_mem_cons.mpr ⟨lw_p53, List.forall_mem_cons.mpr ⟨lw_p54, List.forall_mem_cons.mpr ⟨lw_p55, List.forall_mem_cons.mpr ⟨lw_p56, List.forall_mem_cons.mpr ⟨lw_p57, List.forall_mem_cons.mpr ⟨lw_p58, List.forall_mem_cons.mpr ⟨lw_p59, List.forall_mem_cons.mpr ⟨lw_p60, List.forall_mem_cons.mpr ⟨lw_p61, List.forall_mem_cons.mpr ⟨lw_p62, List.forall_mem_cons.mpr ⟨lw_p63, fun _ h => absurd h List.not_mem_nil⟩⟩⟩⟩⟩⟩⟩⟩⟩⟩⟩⟩⟩⟩⟩⟩
theorem lw_p64 : lw_okq (⟨"PledgedLoansModel", "risky", "()I"⟩, 14) := ⟨⟨by decide +kernel, by decide +kernel⟩, List.mem_of_getElem? (i := 741) (by decide +kernel), List.mem_of_getElem? (i := 1076) (by decide +kernel), List.mem_of_getElem? (i := 1077) (by decide +kernel)⟩
theorem lw_p65 : lw_okq (⟨"PledgedLoansModel", "lent", "()D"⟩, 14) := ⟨⟨by decide +kernel, by decide +kernel⟩, List.mem_of_getElem? (i := 741) (by decide +kernel), List.mem_of_getElem? (i := 1084) (by decide +kernel), List.mem_of_getElem? (i := 1085) (by decide +kernel)⟩
theorem lw_p66 : lw_okq (⟨"PledgedLoansModel", "mix", "(J)V"⟩, 14) := ⟨⟨by decide +kernel, by decide +kernel⟩, List.mem_of_getElem? (i := 741) (by decide +kernel), List.mem_of_getElem? (i := 1093) (by decide +kernel), List.mem_of_getElem? (i := 1094) (by decide +kernel)⟩
theorem lw_p67 : lw_okq (⟨"PledgedLoansModel", "mixMember", "(I)V"⟩, 14) := ⟨⟨by decide +kernel, by decide +kernel⟩, List.mem_of_getElem? (i := 741) (by decide +kernel), List.mem_of_getElem? (i := 1098) (by decide +kernel), List.mem_of_getElem? (i := 1099) (by decide +kernel)⟩
def lw_privs_5 : List (MethodName × Nat) := [(⟨"PledgedLoansModel", "risky", "()I"⟩, 14), (⟨"PledgedLoansModel", "lent", "()D"⟩, 14), (⟨"PledgedLoansModel", "mix", "(J)V"⟩, 14), (⟨"PledgedLoansModel", "mixMember", "(I)V"⟩, 14)]
theorem lw_r5 : ∀ q ∈ lw_privs_5, lw_okq q := List.forall_mem_cons.mpr ⟨lw_p64, List.forall_mem_cons.mpr ⟨lw_p65, List.forall_mem_cons.mpr ⟨lw_p66, List.forall_mem_cons.mpr ⟨lw_p67, fun _ h => absurd h List.not_mem_nil⟩⟩⟩⟩
def lw_privs : List (MethodName × Nat) := lw_privs_1 ++ (lw_privs_2 ++ (lw_privs_3 ++ (lw_privs_4 ++ (lw_privs_5))))
def lw_tbl : List Cond := k2_sels lw_privs ++ tables_1
theorem lw_privs_ok : ∀ q ∈ lw_privs, lw_okq q := by
  show ∀ q ∈ lw_privs_1 ++ (lw_privs_2 ++ (lw_privs_3 ++ (lw_privs_4 ++ (lw_privs_5)))), lw_okq q
  exact List.forall_mem_append.mpr ⟨lw_r1, List.forall_mem_append.mpr ⟨lw_r2, List.forall_mem_append.mpr ⟨lw_r3, List.forall_mem_append.mpr ⟨lw_r4, lw_r5⟩⟩⟩⟩
/-- the streams that the claim lets the run draw from -/
abbrev lw_cs : List Choice := [Jvm.Choice.named "NaN.bits"]
theorem lw_bits : nanBits ∈ lw_cs := by first | decide | exact List.mem_cons_self | simp [lw_cs, nanBits]
-- ===== end of PART A; then your names; then what follows =====
end
section
/-! ===== BEGIN words of one list among another's, by their places ===== -/
theorem goodIn_r {big : List Cond} (ws : List Cond) (ps : List Nat) (hp : ws = ps.filterMap (fun i => big[i]?)) (h : ws.all goodWord = true) : GoodIn big ws := by
  intro w hw
  have h1 := List.all_eq_true.mp h w hw
  rw [hp] at hw
  obtain ⟨i, -, hi⟩ := List.mem_filterMap.mp hw
  have hm : w ∈ big := by first | exact List.mem_of_getElem? hi | exact List.getElem?_mem hi
  exact ⟨hm, good_of_word h1⟩
theorem goodIn_app {big a b : List Cond} (ha : GoodIn big a) (hb : GoodIn big b) : GoodIn big (a ++ b) := fun w h => (List.mem_append.mp h).elim (ha w) (hb w)
theorem goodIn_ca {big a b : List Cond} {c : Cond} (ha : GoodIn big (c :: a)) (hb : GoodIn big b) : GoodIn big (c :: (a ++ b)) := fun w h => (List.mem_cons.mp h).elim (fun e => ha w (List.mem_cons.mpr (Or.inl e))) (fun h => (List.mem_append.mp h).elim (fun h => ha w (List.mem_cons.mpr (Or.inr h))) (hb w))
theorem goodIn_sub {big ws : List Cond} (hm : ∀ w ∈ ws, w ∈ big) (h : ws.all goodWord = true) : GoodIn big ws := fun w hw => ⟨hm w hw, good_of_word (List.all_eq_true.mp h w hw)⟩
/-! ===== END ===== -/

/-! ===== BEGIN exceptions that leave a method, and their catching by the caller (launches without stack traces) ===== -/
section VXA
/-! The laws vx_back, vx_callV, vx_callS, vx_callSW, vx_throw0, vx_throwS follow proofs of the library, with one case more: JvmDerived/Free/Laws.lean (Back.of_free), Shelf42/LK1.lean (callV, callS), Shelf/KitTraced.lean (throwNew0V, throwNewS). -/
/-- where a method has thrown q: the class by its name, the cell, what was written, the world -/
def vx_T (XC : String → State → State → Prop) (st : State) (q : Addr) (t : State) (mc ms : Nat) (free : Addr → Prop) : Prop :=
  ∃ (E : String) (ce : Cell) (L : List Loc), XC E st t ∧ t.heap[q]? = some ce ∧ ce.vm = .none ∧ st.vm.findClass E = some ce.cls ∧ st.WarmedH t.vm ∧ st.sameButNew ({ t with vm := st.vm } : State) L mc ms ∧ ∀ z ∈ L, free z.base
def vx_Q (Qc : Array Value → State → Outcome → State → Prop) (XC : String → State → State → Prop) (mc ms : Nat) (free : Addr → Prop) : Array Value → State → Outcome → State → Prop := fun a st o t =>
  (Qc a st o t ∧ ∃ L, FrameEnd st o t L mc ms ∧ ∀ q ∈ L, free q.base) ∨ ∃ q, o = .threw q ∧ vx_T XC st q t mc ms free
/-- a callee that returns or throws -/
def vx_Met (l : Launch) (y : MethodName) (ws : List Cond) (rm : Room) (Pc : Array Value → State → Prop) (Qc : Array Value → State → Outcome → State → Prop) (XC : String → State → State → Prop) (mc ms : Nat) (free : Addr → Prop) : Prop :=
  MetFree l y (headSpec ws rm) Pc (fun _ _ _ _ _ => True) (vx_Q Qc XC mc ms free)
def vx_Post (XC : String → State → State → Prop) (mc ms : Nat) (free : Addr → Prop) : Pt → Array Value → Addr → Pt → Prop := fun A a q B =>
  ∃ (g : JFrame) (mk : MethodId) (t : State) (L : List Loc) (E : String) (ce : Cell), B.U.heap = t.heap ∧ B.U.vm = t.vm ∧ XC E (A.U.calling g mk a) t ∧ t.heap[q]? = some ce ∧ ce.vm = .none ∧ A.U.vm.findClass E = some ce.cls ∧ B.locs = A.locs ++ L ∧ (∀ z ∈ L, free z.base) ∧ B.cells = A.cells + mc ∧ B.slots = A.slots + ms
def vx_Back (l : Launch) (R : Room) (p : Program) (e : Env) (below : List Frame) (s : State) (sargs : Array Value) (y : MethodName) (len W9 : Nat)
    (Pre : Pt → Array Value → Prop) (Post : Pt → Array Value → Option Value → Pt → Prop) (PostX : Pt → Array Value → Addr → Pt → Prop) : Prop :=
  ∀ (m : MethodId) (meth : Method) (c : Code) (A : Pt) (g : JFrame) (ig : Instr) (mk : MethodId) (a : Array Value),
    Stand p l e R s m sargs below meth c A.U A.locs A.cells A.slots → g.method = m → g.locals.size = c.maxLocals → decode c.code g.pc = .ok (ig, len) →
    2 * g.monitorRoom + (g.stack.map fun v => v.category).sum ≤ W9 → A.U.methodNamed? y = some mk → Pre A a →
    (∃ (v : Option Value) (B : Pt), Stand p l e R s m sargs below meth c B.U B.locs B.cells B.slots ∧ Post A a v B ∧
      Steps p.tables e below (doInvoke e (A.U.setTop g) [] mk a).1 (B.U.setTop { g with pc := g.pc + len, stack := v.toList ++ g.stack })) ∨
    (∃ (q : Addr) (B : Pt), Stand p l e R s m sargs below meth c B.U B.locs B.cells B.slots ∧ PostX A a q B ∧
      Steps p.tables e below (doInvoke e (A.U.setTop g) [] mk a).1 ((B.U.setTop g).pushFrame (.throwing q)))
section Payer
variable {l : Launch} {R : Room} {p : Program} {e : Env} {below : List Frame} {s : State} {sargs : Array Value} {y : MethodName} {len W9 : Nat}
theorem vx_back {ws : List Cond} {rm : Room} {Pc : Array Value → State → Prop} {Qc : Array Value → State → Outcome → State → Prop} {XC : String → State → State → Prop} {mc ms : Nat} {free : Addr → Prop} {bytes : ByteArray} {maxL : Nat} {ret : Option FieldType}
    (hM : vx_Met l y ws rm Pc Qc XC mc ms free) (hblind : FrameBlind Pc) (hrc : rm.cells = mc) (hrs : rm.slots = ms)
    (hframes : rm.frames + 1 ≤ R.frames) (hlocals : W9 + (maxL + 11) + rm.locals ≤ R.locals)
    (hws : ∀ w ∈ ws, ∀ a' U, s.WarmedH U.vm → w.before a' U = true) (hcode : Cond.code y bytes maxL ret ∈ ws) (hinit : ∀ a' U, s.WarmedH U.vm → (Cond.initialized y.cls).before a' U = true) :
    vx_Back l R p e below s sargs y len W9 (PreOf R mc ms Pc) (PostOf Qc mc ms free) (vx_Post XC mc ms free) := by
  intro m meth c A g ig mk a X hg hsize hdg hW hn hp
  have h1 : (headSpec ws rm).pre.before a A.U = true := atoms_intro fun w hw => hws w hw _ _ X.warmed
  have h2 : (Cond.code y bytes maxL ret).before a A.U = true := hws _ hcode _ _ X.warmed
  have h3 : (Cond.initialized y.cls).before a A.U = true := hinit _ _ X.warmed
  have h4 : A.cells + (headSpec ws rm).room.cells ≤ R.cells := by rw [show (headSpec ws rm).room.cells = mc from hrc]; exact hp.1
  have h5 : A.slots + (headSpec ws rm).room.slots ≤ R.slots := by rw [show (headSpec ws rm).room.slots = ms from hrs]; exact hp.2.1
  have hPc : Pc a (A.U.calling g mk a) := hblind _ _ _ _ hp.2.2
  obtain ⟨U, Ls, c0, s0⟩ := A
  dsimp only [Pt.U, Pt.locs, Pt.cells, Pt.slots] at h1 h2 h3 h4 h5 X hn hPc ⊢
  obtain ⟨methY, cY, hmY, hcY, -, hlY, -, -, -, -⟩ := Cond.code_spec hn h2
  obtain ⟨kY, hkY, -⟩ := className_of_methodNamed hn
  have hinitY : kY.init = .initialized := Cond.initialized_spec (findClass_of_methodNamed hn) hkY h3
  have h : At U g.method c below := by rw [hg]; exact X.here
  have hlocals9 : W9 + (maxL + 11) + (headSpec ws rm).room.locals ≤ R.locals := hlocals
  have happ : (headSpec ws rm).appliesLoose y e.platform (U.calling g mk a) = true :=
    Spec.appliesLoose_calling (g := g) h hdg hn hkY hinitY
      (X.room_calling (g := g) (R' := (headSpec ws rm).room) hsize hmY hcY hframes (by rw [hlY]; omega) h4 h5) h1
  obtain ⟨mid, hmid⟩ := h.above
  have hfr : (U.setTop g).frames = (.java g :: mid) ++ below := by rw [State.frames_setTop' g h.top, hmid]; rfl
  obtain ⟨o, s₂, hsteps, -, hend, hq⟩ := Steps.callFree hM p X.admits X.cas X.clock (acts := []) hfr happ hPc trivial
  have hq' : vx_Q Qc XC mc ms free a (U.calling g mk a) o s₂ := hq
  rw [State.frames_setTop' g h.top] at hend
  obtain ⟨g₀, hg0⟩ := Option.isSome_iff_exists.mp h.top
  obtain ⟨r, hr⟩ := State.topJava?_eq_some.mp hg0
  have hr' : (({ U with heap := s₂.heap, slotsUsed := s₂.slotsUsed } : State).setVm s₂.vm).frames = .java g₀ :: r := hr
  rcases hq' with ⟨hqc, L, hfe, hL⟩ | ⟨q, rfl, E, ce, L, hx, hce, hcv, hcl, hW₂, hsm, hL⟩
  · obtain ⟨⟨v, rfl⟩, hW₂, e2, q2, q3, q4, q5, q6⟩ := id hfe
    have e3 : s₂ = ({ (U.calling g mk a).setFrames s₂.frames with heap := s₂.heap, slotsUsed := s₂.slotsUsed } : State).setVm s₂.vm := by
      have : s₂ = ({ s₂ with vm := (U.calling g mk a).vm } : State).setVm s₂.vm := rfl
      rw [e2] at this
      exact this
    obtain ⟨c₂, i₂, len₂, hc₂, hd₂, hf₂⟩ := hend
    have hW' : U.WarmedH s₂.vm := hW₂
    have hcc : c₂ = c := by
      have h1 : s₂.code? g.method = U.code? g.method := by
        rw [State.code?_eq, State.code?_eq, hW'.alike.method?]
      exact Option.some.inj (hc₂.symm.trans (h1.trans h.code))
    subst hcc
    have hlen : len₂ = len := by rw [hdg] at hd₂; cases hd₂; rfl
    subst hlen
    have hs₂ : s₂ = (({ U with heap := s₂.heap, slotsUsed := s₂.slotsUsed } : State).setVm s₂.vm).setTop { g with pc := g.pc + len₂, stack := v.toList ++ g.stack } := by
      refine e3.trans ?_
      rw [hf₂, State.calling_eq h.top, State.setFrames_setFrames, State.setTop_of_frames _ hr', hr]
      rfl
    have hsame : U.sameButNew ({ U with heap := s₂.heap, slotsUsed := s₂.slotsUsed } : State) L mc ms := by
      refine ⟨?_, q2, q3, q4, q5, q6⟩
      obtain ⟨t, ht, -⟩ := State.frames_cons hr
      show ({ U with heap := s₂.heap, slotsUsed := s₂.slotsUsed } : State) = { U.setFrames U.frames with heap := s₂.heap, slotsUsed := s₂.slotsUsed }
      rw [State.setFrames_self ht]
    subst hg
    refine Or.inl ⟨v, ⟨(({ U with heap := s₂.heap, slotsUsed := s₂.slotsUsed } : State).setVm s₂.vm), Ls ++ L, c0 + mc, s0 + ms⟩,
      ⟨X.admits, X.cas, X.clock, X.frames, X.room, X.hears, X.method, X.code, (X.here.setHeapUsed s₂.heap s₂.slotsUsed).setVm hW'.alike, X.tail, State.WarmedH.trans X.warmed hW', X.limits, X.bytes, X.same.trans (hsame.setVm s.vm)⟩,
      ⟨g, mk, s₂, L, rfl, rfl, hqc, rfl, hL, rfl, rfl⟩, ?_⟩
    show Steps p.tables e below _ ((({ U with heap := s₂.heap, slotsUsed := s₂.slotsUsed } : State).setVm s₂.vm).setTop { g with pc := g.pc + len₂, stack := v.toList ++ g.stack })
    rw [← hs₂]
    exact hsteps
  · obtain ⟨e2, q2, q3, q4, q5, q6⟩ := id hsm
    have e3 : s₂ = ({ (U.calling g mk a).setFrames s₂.frames with heap := s₂.heap, slotsUsed := s₂.slotsUsed } : State).setVm s₂.vm := by
      have : s₂ = ({ s₂ with vm := (U.calling g mk a).vm } : State).setVm s₂.vm := rfl
      rw [e2] at this
      exact this
    have hf₂ : s₂.frames = .throwing q :: .java g :: U.frames.tail := hend
    have hW' : U.WarmedH s₂.vm := hW₂
    have hs₂ : s₂ = ((({ U with heap := s₂.heap, slotsUsed := s₂.slotsUsed } : State).setVm s₂.vm).setTop g).pushFrame (.throwing q) := by
      refine e3.trans ?_
      rw [hf₂, State.calling_eq h.top, State.setFrames_setFrames, State.pushFrame, State.frames_setTop _ hr', State.setTop_of_frames _ hr', State.setFrames_setFrames, hr]
      rfl
    have hsame : U.sameButNew ({ U with heap := s₂.heap, slotsUsed := s₂.slotsUsed } : State) L mc ms := by
      refine ⟨?_, q2, q3, q4, q5, q6⟩
      obtain ⟨t, ht, -⟩ := State.frames_cons hr
      show ({ U with heap := s₂.heap, slotsUsed := s₂.slotsUsed } : State) = { U.setFrames U.frames with heap := s₂.heap, slotsUsed := s₂.slotsUsed }
      rw [State.setFrames_self ht]
    subst hg
    refine Or.inr ⟨q, ⟨(({ U with heap := s₂.heap, slotsUsed := s₂.slotsUsed } : State).setVm s₂.vm), Ls ++ L, c0 + mc, s0 + ms⟩,
      ⟨X.admits, X.cas, X.clock, X.frames, X.room, X.hears, X.method, X.code, (X.here.setHeapUsed s₂.heap s₂.slotsUsed).setVm hW'.alike, X.tail, State.WarmedH.trans X.warmed hW', X.limits, X.bytes, X.same.trans (hsame.setVm s.vm)⟩,
      ⟨g, mk, s₂, L, E, ce, rfl, rfl, hx, hce, hcv, hcl, rfl, hL, rfl, rfl⟩, ?_⟩
    show Steps p.tables e below _ (((({ U with heap := s₂.heap, slotsUsed := s₂.slotsUsed } : State).setVm s₂.vm).setTop g).pushFrame (.throwing q))
    rw [← hs₂]
    exact hsteps
end Payer
section Calls
variable {p : Program} {l : Launch} {e : Env} {R : Room} {s : State} {m : MethodId} {args : Array Value} {below : List Frame} {meth : Method} {c : Code} {T : State} {locs : List Loc} {cells slots : Nat}
theorem vx_callV (X : Stand p l e R s m args below meth c T locs cells slots) (hexec : p.tables.exec = Jvm.exec) {own C : String} {index : Nat} {y : MethodName} {bytes : ByteArray} {maxL : Nat} {ret : Option FieldType}
    (hown : s.vm.findClass own = some m.cls) (hlink : (Cond.methodLink own index y).before args s = true) (hinst : (Cond.instanceMethod y).before args s = true) (hsel : (Cond.selects C y y).before args s = true)
    (hcode : (Cond.code y bytes maxL ret).before args s = true) (hy : y.cls ≠ "java/lang/invoke/MethodHandle" ∧ y.cls ≠ "java/lang/invoke/VarHandle")
    {W9 : Nat} {Pre : Pt → Array Value → Prop} {Post : Pt → Array Value → Option Value → Pt → Prop} {PostX : Pt → Array Value → Addr → Pt → Prop} (hK : vx_Back l R p e below s args y 3 W9 Pre Post PostX)
    {b : Addr} {cellB : Cell} (hcell : T.heap[b]? = some cellB) (hobj : cellB.vm.isStatics = false) (hcls : s.vm.findClass C = some cellB.cls)
    {g : JFrame} (hg : g.method = m) (hsize : g.locals.size = c.maxLocals) {argsL rest : List Value} (hlen : ∀ sig, parseMethodDescriptor y.desc = some sig → argsL.length = sig.parameters.length)
    (hstack : g.stack = argsL.reverse ++ .ref b :: rest) (hW : 2 * g.monitorRoom + (rest.map fun v => v.category).sum ≤ W9) (hdg : decode c.code g.pc = .ok (.invokevirtual index, 3))
    (hpre : ∀ vm₁, s.WarmedH vm₁ → Pre ⟨T.setVm vm₁, locs, cells, slots⟩ (Value.ref b :: argsL).toArray) :
    (∃ (v : Option Value) (vm₁ : Vm) (B : Pt), s.WarmedH vm₁ ∧ Stand p l e R s m args below meth c B.U B.locs B.cells B.slots ∧ Post ⟨T.setVm vm₁, locs, cells, slots⟩ (Value.ref b :: argsL).toArray v B ∧
      ∀ target, Steps p.tables e below (B.U.setTop { g with pc := g.pc + 3, stack := v.toList ++ rest }) target → Steps p.tables e below (T.setTop g) target) ∨
    (∃ (q : Addr) (vm₁ : Vm) (B : Pt), s.WarmedH vm₁ ∧ Stand p l e R s m args below meth c B.U B.locs B.cells B.slots ∧ PostX ⟨T.setVm vm₁, locs, cells, slots⟩ (Value.ref b :: argsL).toArray q B ∧
      Steps p.tables e below (T.setTop g) ((B.U.setTop { g with stack := rest }).pushFrame (.throwing q))) := by
  obtain ⟨mk, methM, hnamed, hmethM, hstM, habM⟩ := Cond.instanceMethod_spec hinst
  obtain ⟨methM', cM, hmethM', -, -, -, -, -, -, hsigM⟩ := Cond.code_spec hnamed hcode
  cases hmethM.symm.trans hmethM'
  obtain ⟨c2, r2, m2, q1, q2, q3, q4, kP, hkP, hkPi⟩ := Cond.selects_spec hsel
  cases hcls.symm.trans q1
  cases (State.methodFound?_of_named hnamed hy).symm.trans q2
  cases hnamed.symm.trans q3
  have hselP : selectMethod e.platform s.vm cellB.cls mk = .method mk := by rw [Launch.admits_selectMethod X.admits]; exact q4
  obtain ⟨vm₁, X₁, hstep₁⟩ := X.invokevirtual hexec hown hlink hnamed hmethM hstM hkP hkPi hy (a := b) (cell := cellB) hcell
    (fun z h => by rw [h] at hobj; cases hobj) hselP hmethM habM hkP hkPi (g := g) hg (argsL := argsL) (rest := rest) (hlen _ hsigM) hstack hdg
  rcases hK m meth c ⟨T.setVm vm₁, locs, cells, slots⟩ { g with stack := rest } (.invokevirtual index) mk (Value.ref b :: argsL).toArray X₁ hg hsize hdg hW (X₁.named hnamed) (hpre vm₁ X₁.warmed) with ⟨v, B, X', hpost, hsteps⟩ | ⟨q, B, X', hpost, hsteps⟩
  · exact Or.inl ⟨v, vm₁, B, X₁.warmed, X', hpost, fun target h => hstep₁ _ fun acts => by rw [doInvoke_state]; exact hsteps.trans h⟩
  · exact Or.inr ⟨q, vm₁, B, X₁.warmed, X', hpost, hstep₁ _ fun acts => by rw [doInvoke_state]; exact hsteps⟩
theorem vx_callS (X : Stand p l e R s m args below meth c T locs cells slots) (hexec : p.tables.exec = Jvm.exec) {own : String} {index : Nat} {y : MethodName} {bytes : ByteArray} {maxL : Nat} {ret : Option FieldType}
    (hown : s.vm.findClass own = some m.cls) (hlink : (Cond.methodLink own index y).before args s = true) (hstat : (Cond.static y).before args s = true) (hinit : (Cond.initialized y.cls).before args s = true)
    (hcode : (Cond.code y bytes maxL ret).before args s = true) (hy : y.cls ≠ "java/lang/invoke/MethodHandle" ∧ y.cls ≠ "java/lang/invoke/VarHandle")
    {W9 : Nat} {Pre : Pt → Array Value → Prop} {Post : Pt → Array Value → Option Value → Pt → Prop} {PostX : Pt → Array Value → Addr → Pt → Prop} (hK : vx_Back l R p e below s args y 3 W9 Pre Post PostX)
    {g : JFrame} (hg : g.method = m) (hsize : g.locals.size = c.maxLocals) {argsL rest : List Value} (hlen : ∀ sig, parseMethodDescriptor y.desc = some sig → argsL.length = sig.parameters.length)
    (hstack : g.stack = argsL.reverse ++ rest) (hW : 2 * g.monitorRoom + (rest.map fun v => v.category).sum ≤ W9) (hdg : decode c.code g.pc = .ok (.invokestatic index, 3))
    (hpre : ∀ vm₁, s.WarmedH vm₁ → Pre ⟨T.setVm vm₁, locs, cells, slots⟩ argsL.toArray) :
    (∃ (v : Option Value) (vm₁ : Vm) (B : Pt), s.WarmedH vm₁ ∧ Stand p l e R s m args below meth c B.U B.locs B.cells B.slots ∧ Post ⟨T.setVm vm₁, locs, cells, slots⟩ argsL.toArray v B ∧
      ∀ target, Steps p.tables e below (B.U.setTop { g with pc := g.pc + 3, stack := v.toList ++ rest }) target → Steps p.tables e below (T.setTop g) target) ∨
    (∃ (q : Addr) (vm₁ : Vm) (B : Pt), s.WarmedH vm₁ ∧ Stand p l e R s m args below meth c B.U B.locs B.cells B.slots ∧ PostX ⟨T.setVm vm₁, locs, cells, slots⟩ argsL.toArray q B ∧
      Steps p.tables e below (T.setTop g) ((B.U.setTop { g with stack := rest }).pushFrame (.throwing q))) := by
  obtain ⟨mk, hnamed⟩ := Cond.code_named hcode
  obtain ⟨methM, cM, hmethM, -, -, -, -, -, -, hsigM⟩ := Cond.code_spec hnamed hcode
  have hstatic : methM.isStatic = true := Cond.static_spec hnamed hmethM hstat
  obtain ⟨kP, hkP, -⟩ := className_of_methodNamed hnamed
  have hinitP : kP.init = .initialized := Cond.initialized_spec (findClass_of_methodNamed hnamed) hkP hinit
  obtain ⟨vm₁, X₁, hstep₁⟩ := X.invokestatic hexec hown hlink hnamed hmethM hstatic hkP hinitP hy (g := g) hg (argsL := argsL) (rest := rest) (hlen _ hsigM) hstack hdg
  rcases hK m meth c ⟨T.setVm vm₁, locs, cells, slots⟩ { g with stack := rest } (.invokestatic index) mk argsL.toArray X₁ hg hsize hdg hW (X₁.named hnamed) (hpre vm₁ X₁.warmed) with ⟨v, B, X', hpost, hsteps⟩ | ⟨q, B, X', hpost, hsteps⟩
  · exact Or.inl ⟨v, vm₁, B, X₁.warmed, X', hpost, fun target h => hstep₁ _ fun acts => by rw [doInvoke_state]; exact hsteps.trans h⟩
  · exact Or.inr ⟨q, vm₁, B, X₁.warmed, X', hpost, hstep₁ _ fun acts => by rw [doInvoke_state]; exact hsteps⟩
end Calls
theorem vx_cls {s : State} {T : State} {vm₁ : Vm} {E : String} {k : ClassId} (hW : s.WarmedH vm₁) (h : (T.setVm vm₁).vm.findClass E = some k) : s.vm.findClass E = some k := by
  have h1 : vm₁.findClass E = some k := h
  rw [hW.alike.findClass] at h1
  exact h1
/-- the method's frame g, with q thrown over it -/
def vx_W (p : Program) (l : Launch) (e : Env) (R : Room) (s : State) (m : MethodId) (args : Array Value) (below : List Frame) (meth : Method) (c : Code) (H : Heap) (locs : List Loc) (cells slots : Nat) (Q : State → Prop) (g : JFrame) (q : Addr) : Prop :=
  ∀ T : State, T.heap = H → Stand p l e R s m args below meth c T locs cells slots → ∃ t, Steps p.tables e below ((T.setTop g).pushFrame (.throwing q)) t ∧ Q t
def vx_Run (p : Program) (l : Launch) (e : Env) (R : Room) (s : State) (m : MethodId) (args : Array Value) (below : List Frame) (meth : Method) (c : Code) (H : Heap) (locs : List Loc) (cells slots mc ms : Nat) (g : JFrame) (rest : List Value) (Qa : State → Outcome → State → Prop) (XC : String → State → State → Prop) (free : Addr → Prop) : Prop :=
  ∀ T : State, T.heap = H → Stand p l e R s m args below meth c T locs cells slots →
    (∃ (v : Option Value) (st₀ t T' : State) (L : List Loc), st₀.heap = H ∧ Stand p l e R s m args below meth c T' (locs ++ L) (cells + mc) (slots + ms) ∧ (∀ q ∈ L, free q.base) ∧ T'.heap = t.heap ∧ T'.vm = t.vm ∧ Qa st₀ (.returned v) t ∧
      Goes p e below T g T' { g with pc := g.pc + 3, stack := v.toList ++ rest }) ∨
    (∃ (q : Addr) (st₀ t T' : State) (L : List Loc) (E : String) (ce : Cell), st₀.heap = H ∧ Stand p l e R s m args below meth c T' (locs ++ L) (cells + mc) (slots + ms) ∧ (∀ z ∈ L, free z.base) ∧ T'.heap = t.heap ∧ T'.vm = t.vm ∧ XC E st₀ t ∧ t.heap[q]? = some ce ∧ ce.vm = .none ∧ s.vm.findClass E = some ce.cls ∧
      Steps p.tables e below (T.setTop g) ((T'.setTop { g with stack := rest }).pushFrame (.throwing q)))
def vx_X {S : Type} (px : S → Prop) (B : String → S → State → Prop) (A : Nat → Prop) : String → State → State → Prop := fun E st t => ∃ u : S, px u ∧ B E u t ∧ va_F A st t
section Runs
variable {p : Program} {l : Launch} {e : Env} {R : Room} {s : State} {m : MethodId} {args : Array Value} {below : List Frame} {meth : Method} {c : Code} {H : Heap} {locs : List Loc} {cells slots : Nat}
variable {y : MethodName} {bytes cc : ByteArray} {maxL nL mc ms n index : Nat} {ret : Option FieldType} {ws : List Cond} {rm : Room} {Pc : Array Value → State → Prop} {Qc : Array Value → State → Outcome → State → Prop} {XC : String → State → State → Prop} {free : Addr → Prop} {Ts : List Cond} {own C : String} {b : Addr} {As rest : List Value} {g : JFrame}
theorem vx_callBack (cb : CallB R s args own index y bytes maxL ret ws rm mc ms n) (hM : vx_Met l y ws rm Pc Qc XC mc ms free) (hbl : FrameBlind Pc) : vx_Back l R p e below s args y 3 8 (PreOf R mc ms Pc) (PostOf Qc mc ms free) (vx_Post XC mc ms free) := by
  obtain ⟨hrc, hrs, hfr, hlo, hws, hcw, -, hini, -⟩ := cb
  exact vx_back (bytes := bytes) (maxL := maxL) (ret := ret) hM hbl hrc hrs hfr hlo hws hcw (fun a' U hW => word_at hW (Or.inl (by first | rfl | simp [Cond.onTables, Cond.keeps, Cond.steady])) hini)
theorem vx_runV (S : CallFix p m c cc nL s args Ts own) (hM : vx_Met l y ws rm Pc Qc XC mc ms free) (cw : CallW R s args own C index y bytes maxL ret ws rm mc ms n) (hp : PreV s H C b Pc As)
    (hg : g.method = m) (hn : As.length = n) (hsize : g.locals.size = nL) (hstack : g.stack = As.reverse ++ .ref b :: rest) (hW : 2 * g.monitorRoom + (rest.map fun v => v.category).sum ≤ 8) (hdg : decode cc g.pc = .ok (.invokevirtual index, 3)) (hf : cells + mc ≤ R.cells ∧ slots + ms ≤ R.slots) :
    vx_Run p l e R s m args below meth c H locs cells slots mc ms g rest (Qc (Value.ref b :: As).toArray) XC free := by
  have hK : vx_Back l R p e below s args y 3 8 (PreOf R mc ms Pc) (PostOf Qc mc ms free) (vx_Post XC mc ms free) := vx_callBack cw.1 hM hp.1
  obtain ⟨⟨-, -, -, -, -, -, hcode, -, hy, hlen, hl⟩, hin, hse⟩ := cw
  obtain ⟨hx, hb, hml, ho, -⟩ := S
  obtain ⟨-, ⟨cellB, hcB, hoB, hclB⟩, hPc⟩ := hp
  intro T hT X
  rcases vx_callV X hx (C := C) (bytes := bytes) (maxL := maxL) (ret := ret) ho hl hin hse hcode hy hK (by rw [hT]; exact hcB) hoB hclB hg (hsize.trans hml.symm) (argsL := As) (rest := rest) (fun sig h => hn.trans (hlen sig h)) hstack hW (by rw [hb]; exact hdg)
    (fun vm₁ hW₁ => ⟨hf.1, hf.2, hPc (T.setVm vm₁) hT hW₁⟩) with ⟨v, vm₁, ⟨U', l2, c2, s2⟩, hW₁, X', ⟨g', mk, t, L, e1, e2, hq, h1, hL, h2, h3⟩, st⟩ | ⟨q, vm₁, ⟨U', l2, c2, s2⟩, hW₁, X', ⟨g', mk, t, L, E, ce, e1, e2, hq, hce, hcv, hcl, h1, hL, h2, h3⟩, st⟩
  · dsimp only [Pt.U, Pt.locs, Pt.cells, Pt.slots] at X' e1 e2 h1 h2 h3 st
    subst h1; subst h2; subst h3
    exact Or.inl ⟨v, (T.setVm vm₁).calling g' mk (Value.ref b :: As).toArray, t, U', L, hT, X', hL, e1, e2, hq, st⟩
  · dsimp only [Pt.U, Pt.locs, Pt.cells, Pt.slots] at X' e1 e2 h1 h2 h3 st hcl
    subst h1; subst h2; subst h3
    exact Or.inr ⟨q, (T.setVm vm₁).calling g' mk (Value.ref b :: As).toArray, t, U', L, E, ce, hT, X', hL, e1, e2, hq, hce, hcv, vx_cls hW₁ hcl, st⟩
theorem vx_runS (S : CallFix p m c cc nL s args Ts own) (hM : vx_Met l y ws rm Pc Qc XC mc ms free) (cw : CallB R s args own index y bytes maxL ret ws rm mc ms n ∧ (Cond.static y).before args s = true) (hp : PreS s H Pc As)
    (hg : g.method = m) (hn : As.length = n) (hsize : g.locals.size = nL) (hstack : g.stack = As.reverse ++ rest) (hW : 2 * g.monitorRoom + (rest.map fun v => v.category).sum ≤ 8) (hdg : decode cc g.pc = .ok (.invokestatic index, 3)) (hf : cells + mc ≤ R.cells ∧ slots + ms ≤ R.slots) :
    vx_Run p l e R s m args below meth c H locs cells slots mc ms g rest (Qc As.toArray) XC free := by
  have hK : vx_Back l R p e below s args y 3 8 (PreOf R mc ms Pc) (PostOf Qc mc ms free) (vx_Post XC mc ms free) := vx_callBack cw.1 hM hp.1
  obtain ⟨⟨-, -, -, -, -, -, hcode, hini, hy, hlen, hl⟩, hstt⟩ := cw
  obtain ⟨hx, hb, hml, ho, -⟩ := S
  intro T hT X
  rcases vx_callS X hx (bytes := bytes) (maxL := maxL) (ret := ret) ho hl hstt hini hcode hy hK hg (hsize.trans hml.symm) (argsL := As) (rest := rest) (fun sig h => hn.trans (hlen sig h)) hstack hW (by rw [hb]; exact hdg)
    (fun vm₁ hW₁ => ⟨hf.1, hf.2, hp.2 (T.setVm vm₁) hT hW₁⟩) with ⟨v, vm₁, ⟨U', l2, c2, s2⟩, hW₁, X', ⟨g', mk, t, L, e1, e2, hq, h1, hL, h2, h3⟩, st⟩ | ⟨q, vm₁, ⟨U', l2, c2, s2⟩, hW₁, X', ⟨g', mk, t, L, E, ce, e1, e2, hq, hce, hcv, hcl, h1, hL, h2, h3⟩, st⟩
  · dsimp only [Pt.U, Pt.locs, Pt.cells, Pt.slots] at X' e1 e2 h1 h2 h3 st
    subst h1; subst h2; subst h3
    exact Or.inl ⟨v, (T.setVm vm₁).calling g' mk As.toArray, t, U', L, hT, X', hL, e1, e2, hq, st⟩
  · dsimp only [Pt.U, Pt.locs, Pt.cells, Pt.slots] at X' e1 e2 h1 h2 h3 st hcl
    subst h1; subst h2; subst h3
    exact Or.inr ⟨q, (T.setVm vm₁).calling g' mk As.toArray, t, U', L, E, ce, hT, X', hL, e1, e2, hq, hce, hcv, vx_cls hW₁ hcl, st⟩
end Runs
section Rows
variable {p : Program} {l : Launch} {e : Env} {R : Room} {s : State} {m : MethodId} {args : Array Value} {below : List Frame} {meth : Method} {c : Code} {H : Heap} {locs : List Loc} {cells slots : Nat} {Q : State → Prop}
variable {mc ms : Nat} {free : Addr → Prop} {A0 A1 : Nat → Prop} {H0 : Heap} {a : Array Value} {pc : Nat} {ls : Array Slot} {st0 rest : List Value}
theorem vx_keep {st₀ t T' : State} {L : List Loc} (h0 : st₀.heap = H) (e1 : T'.heap = t.heap) (hS : va_S A0 H0 H locs) (hA : ∀ q, q < H.size → A1 q → A0 q) (hf : ∀ q, free q → A0 q) (hL : ∀ q ∈ L, free q.base) (hF : va_F A1 st₀ t) :
    H.size ≤ T'.heap.size ∧ (∀ q : Nat, q < H.size → ¬ A1 q → T'.heap[q]? = H[q]?) ∧ va_S A0 H0 T'.heap (locs ++ L) := by
  obtain ⟨hz, hk⟩ := hF
  rw [h0] at hz hk
  exact ⟨by rw [e1]; exact hz, fun q h1 h2 => by rw [e1]; exact hk q h1 h2,
    ⟨Nat.le_trans hS.1 (by rw [e1]; exact hz), fun q h1 h2 => by rw [e1, hk q (Nat.lt_of_lt_of_le h1 hS.1) (fun z => h2 (hA q (Nat.lt_of_lt_of_le h1 hS.1) z))]; exact hS.2.1 q h1 h2, fun q hq => by
      rcases List.mem_append.mp hq with h | h
      · exact hS.2.2 q h
      · exact hf _ (hL q h)⟩⟩
theorem vx_calli {S SX : Type} {post : Int32 → S → Prop} {px : SX → Prop} {B : S → State → Prop} {BX : String → SX → State → Prop} {AX : Nat → Prop} (hr : vx_Run p l e R s m args below meth c H locs cells slots mc ms (F0 m pc ls st0) rest (va_Qi post B A1 a) (vx_X px BX AX) free) (hS : va_S A0 H0 H locs) (hA : ∀ q, q < H.size → A1 q → A0 q) (hf : ∀ q, free q → A0 q) (hAX : ∀ q, q < H.size → AX q → A0 q)
    (kx : ∀ (E : String) (ce : Cell) (q9 : Addr) (u : SX) (t : State) (H1 : Heap) (locs1 : List Loc), t.heap = H1 → s.vm.Alike t.vm → px u → BX E u t → H.size ≤ H1.size → (∀ q : Nat, q < H.size → ¬ AX q → H1[q]? = H[q]?) → va_S A0 H0 H1 locs1 → H1[q9]? = some ce → ce.vm = .none → s.vm.findClass E = some ce.cls → vx_W p l e R s m args below meth c H1 locs1 (cells + mc) (slots + ms) Q (F0 m pc ls rest) q9)
    (kk : ∀ (r : Int32) (u : S) (t : State) (H1 : Heap) (locs1 : List Loc), t.heap = H1 → s.vm.Alike t.vm → post r u → B u t → H.size ≤ H1.size → (∀ q : Nat, q < H.size → ¬ A1 q → H1[q]? = H[q]?) → va_S A0 H0 H1 locs1 → W p l e R s m args below meth c H1 locs1 (cells + mc) (slots + ms) Q (F0 m (pc + 3) ls (.int r :: rest))) : W p l e R s m args below meth c H locs cells slots Q (F0 m pc ls st0) := by
  intro T hT X
  rcases hr T hT X with ⟨v, st₀, t, T', L, h0, X', hL, e1, e2, ⟨⟨r, u, hv, hp, hb⟩, hF⟩, st⟩ | ⟨q, st₀, t, T', L, E, ce, h0, X', hL, e1, e2, ⟨u, hp, hb, hF⟩, hce, hcv, hcl, st⟩
  · cases hv
    obtain ⟨k1, k2, k3⟩ := vx_keep h0 e1 hS hA hf hL hF
    obtain ⟨t2, a1, b1⟩ := kk r u t T'.heap (locs ++ L) e1.symm (by rw [← e2]; exact X'.warmed.alike) hp hb k1 k2 k3 T' rfl X'
    exact ⟨t2, st t2 a1, b1⟩
  · obtain ⟨k1, k2, k3⟩ := vx_keep h0 e1 hS hAX hf hL hF
    obtain ⟨t2, a1, b1⟩ := kx E ce q u t T'.heap (locs ++ L) e1.symm (by rw [← e2]; exact X'.warmed.alike) hp hb k1 k2 k3 (by rw [e1]; exact hce) hcv hcl T' rfl X'
    exact ⟨t2, st.trans a1, b1⟩
theorem vx_calll {S SX : Type} {post : Int64 → S → Prop} {px : SX → Prop} {B : S → State → Prop} {BX : String → SX → State → Prop} {AX : Nat → Prop} (hr : vx_Run p l e R s m args below meth c H locs cells slots mc ms (F0 m pc ls st0) rest (va_Ql post B A1 a) (vx_X px BX AX) free) (hS : va_S A0 H0 H locs) (hA : ∀ q, q < H.size → A1 q → A0 q) (hf : ∀ q, free q → A0 q) (hAX : ∀ q, q < H.size → AX q → A0 q)
    (kx : ∀ (E : String) (ce : Cell) (q9 : Addr) (u : SX) (t : State) (H1 : Heap) (locs1 : List Loc), t.heap = H1 → s.vm.Alike t.vm → px u → BX E u t → H.size ≤ H1.size → (∀ q : Nat, q < H.size → ¬ AX q → H1[q]? = H[q]?) → va_S A0 H0 H1 locs1 → H1[q9]? = some ce → ce.vm = .none → s.vm.findClass E = some ce.cls → vx_W p l e R s m args below meth c H1 locs1 (cells + mc) (slots + ms) Q (F0 m pc ls rest) q9)
    (kk : ∀ (r : Int64) (u : S) (t : State) (H1 : Heap) (locs1 : List Loc), t.heap = H1 → s.vm.Alike t.vm → post r u → B u t → H.size ≤ H1.size → (∀ q : Nat, q < H.size → ¬ A1 q → H1[q]? = H[q]?) → va_S A0 H0 H1 locs1 → W p l e R s m args below meth c H1 locs1 (cells + mc) (slots + ms) Q (F0 m (pc + 3) ls (.long r :: rest))) : W p l e R s m args below meth c H locs cells slots Q (F0 m pc ls st0) := by
  intro T hT X
  rcases hr T hT X with ⟨v, st₀, t, T', L, h0, X', hL, e1, e2, ⟨⟨r, u, hv, hp, hb⟩, hF⟩, st⟩ | ⟨q, st₀, t, T', L, E, ce, h0, X', hL, e1, e2, ⟨u, hp, hb, hF⟩, hce, hcv, hcl, st⟩
  · cases hv
    obtain ⟨k1, k2, k3⟩ := vx_keep h0 e1 hS hA hf hL hF
    obtain ⟨t2, a1, b1⟩ := kk r u t T'.heap (locs ++ L) e1.symm (by rw [← e2]; exact X'.warmed.alike) hp hb k1 k2 k3 T' rfl X'
    exact ⟨t2, st t2 a1, b1⟩
  · obtain ⟨k1, k2, k3⟩ := vx_keep h0 e1 hS hAX hf hL hF
    obtain ⟨t2, a1, b1⟩ := kx E ce q u t T'.heap (locs ++ L) e1.symm (by rw [← e2]; exact X'.warmed.alike) hp hb k1 k2 k3 (by rw [e1]; exact hce) hcv hcl T' rfl X'
    exact ⟨t2, st.trans a1, b1⟩
theorem vx_callf {S SX : Type} {post : UInt32 → S → Prop} {px : SX → Prop} {B : S → State → Prop} {BX : String → SX → State → Prop} {AX : Nat → Prop} (hr : vx_Run p l e R s m args below meth c H locs cells slots mc ms (F0 m pc ls st0) rest (va_Qf post B A1 a) (vx_X px BX AX) free) (hS : va_S A0 H0 H locs) (hA : ∀ q, q < H.size → A1 q → A0 q) (hf : ∀ q, free q → A0 q) (hAX : ∀ q, q < H.size → AX q → A0 q)
    (kx : ∀ (E : String) (ce : Cell) (q9 : Addr) (u : SX) (t : State) (H1 : Heap) (locs1 : List Loc), t.heap = H1 → s.vm.Alike t.vm → px u → BX E u t → H.size ≤ H1.size → (∀ q : Nat, q < H.size → ¬ AX q → H1[q]? = H[q]?) → va_S A0 H0 H1 locs1 → H1[q9]? = some ce → ce.vm = .none → s.vm.findClass E = some ce.cls → vx_W p l e R s m args below meth c H1 locs1 (cells + mc) (slots + ms) Q (F0 m pc ls rest) q9)
    (kk : ∀ (r : UInt32) (u : S) (t : State) (H1 : Heap) (locs1 : List Loc), t.heap = H1 → s.vm.Alike t.vm → post r u → B u t → H.size ≤ H1.size → (∀ q : Nat, q < H.size → ¬ A1 q → H1[q]? = H[q]?) → va_S A0 H0 H1 locs1 → W p l e R s m args below meth c H1 locs1 (cells + mc) (slots + ms) Q (F0 m (pc + 3) ls (.float r :: rest))) : W p l e R s m args below meth c H locs cells slots Q (F0 m pc ls st0) := by
  intro T hT X
  rcases hr T hT X with ⟨v, st₀, t, T', L, h0, X', hL, e1, e2, ⟨⟨r, u, hv, hp, hb⟩, hF⟩, st⟩ | ⟨q, st₀, t, T', L, E, ce, h0, X', hL, e1, e2, ⟨u, hp, hb, hF⟩, hce, hcv, hcl, st⟩
  · cases hv
    obtain ⟨k1, k2, k3⟩ := vx_keep h0 e1 hS hA hf hL hF
    obtain ⟨t2, a1, b1⟩ := kk r u t T'.heap (locs ++ L) e1.symm (by rw [← e2]; exact X'.warmed.alike) hp hb k1 k2 k3 T' rfl X'
    exact ⟨t2, st t2 a1, b1⟩
  · obtain ⟨k1, k2, k3⟩ := vx_keep h0 e1 hS hAX hf hL hF
    obtain ⟨t2, a1, b1⟩ := kx E ce q u t T'.heap (locs ++ L) e1.symm (by rw [← e2]; exact X'.warmed.alike) hp hb k1 k2 k3 (by rw [e1]; exact hce) hcv hcl T' rfl X'
    exact ⟨t2, st.trans a1, b1⟩
theorem vx_calld {S SX : Type} {post : UInt64 → S → Prop} {px : SX → Prop} {B : S → State → Prop} {BX : String → SX → State → Prop} {AX : Nat → Prop} (hr : vx_Run p l e R s m args below meth c H locs cells slots mc ms (F0 m pc ls st0) rest (va_Qd post B A1 a) (vx_X px BX AX) free) (hS : va_S A0 H0 H locs) (hA : ∀ q, q < H.size → A1 q → A0 q) (hf : ∀ q, free q → A0 q) (hAX : ∀ q, q < H.size → AX q → A0 q)
    (kx : ∀ (E : String) (ce : Cell) (q9 : Addr) (u : SX) (t : State) (H1 : Heap) (locs1 : List Loc), t.heap = H1 → s.vm.Alike t.vm → px u → BX E u t → H.size ≤ H1.size → (∀ q : Nat, q < H.size → ¬ AX q → H1[q]? = H[q]?) → va_S A0 H0 H1 locs1 → H1[q9]? = some ce → ce.vm = .none → s.vm.findClass E = some ce.cls → vx_W p l e R s m args below meth c H1 locs1 (cells + mc) (slots + ms) Q (F0 m pc ls rest) q9)
    (kk : ∀ (r : UInt64) (u : S) (t : State) (H1 : Heap) (locs1 : List Loc), t.heap = H1 → s.vm.Alike t.vm → post r u → B u t → H.size ≤ H1.size → (∀ q : Nat, q < H.size → ¬ A1 q → H1[q]? = H[q]?) → va_S A0 H0 H1 locs1 → W p l e R s m args below meth c H1 locs1 (cells + mc) (slots + ms) Q (F0 m (pc + 3) ls (.double r :: rest))) : W p l e R s m args below meth c H locs cells slots Q (F0 m pc ls st0) := by
  intro T hT X
  rcases hr T hT X with ⟨v, st₀, t, T', L, h0, X', hL, e1, e2, ⟨⟨r, u, hv, hp, hb⟩, hF⟩, st⟩ | ⟨q, st₀, t, T', L, E, ce, h0, X', hL, e1, e2, ⟨u, hp, hb, hF⟩, hce, hcv, hcl, st⟩
  · cases hv
    obtain ⟨k1, k2, k3⟩ := vx_keep h0 e1 hS hA hf hL hF
    obtain ⟨t2, a1, b1⟩ := kk r u t T'.heap (locs ++ L) e1.symm (by rw [← e2]; exact X'.warmed.alike) hp hb k1 k2 k3 T' rfl X'
    exact ⟨t2, st t2 a1, b1⟩
  · obtain ⟨k1, k2, k3⟩ := vx_keep h0 e1 hS hAX hf hL hF
    obtain ⟨t2, a1, b1⟩ := kx E ce q u t T'.heap (locs ++ L) e1.symm (by rw [← e2]; exact X'.warmed.alike) hp hb k1 k2 k3 (by rw [e1]; exact hce) hcv hcl T' rfl X'
    exact ⟨t2, st.trans a1, b1⟩
theorem vx_callv {S SX : Type} {post : S → Prop} {px : SX → Prop} {B : S → State → Prop} {BX : String → SX → State → Prop} {AX : Nat → Prop} (hr : vx_Run p l e R s m args below meth c H locs cells slots mc ms (F0 m pc ls st0) rest (va_Qv post B A1 a) (vx_X px BX AX) free) (hS : va_S A0 H0 H locs) (hA : ∀ q, q < H.size → A1 q → A0 q) (hf : ∀ q, free q → A0 q) (hAX : ∀ q, q < H.size → AX q → A0 q)
    (kx : ∀ (E : String) (ce : Cell) (q9 : Addr) (u : SX) (t : State) (H1 : Heap) (locs1 : List Loc), t.heap = H1 → s.vm.Alike t.vm → px u → BX E u t → H.size ≤ H1.size → (∀ q : Nat, q < H.size → ¬ AX q → H1[q]? = H[q]?) → va_S A0 H0 H1 locs1 → H1[q9]? = some ce → ce.vm = .none → s.vm.findClass E = some ce.cls → vx_W p l e R s m args below meth c H1 locs1 (cells + mc) (slots + ms) Q (F0 m pc ls rest) q9)
    (kk : ∀ (u : S) (t : State) (H1 : Heap) (locs1 : List Loc), t.heap = H1 → s.vm.Alike t.vm → post u → B u t → H.size ≤ H1.size → (∀ q : Nat, q < H.size → ¬ A1 q → H1[q]? = H[q]?) → va_S A0 H0 H1 locs1 → W p l e R s m args below meth c H1 locs1 (cells + mc) (slots + ms) Q (F0 m (pc + 3) ls (rest))) : W p l e R s m args below meth c H locs cells slots Q (F0 m pc ls st0) := by
  intro T hT X
  rcases hr T hT X with ⟨v, st₀, t, T', L, h0, X', hL, e1, e2, ⟨⟨u, hv, hp, hb⟩, hF⟩, st⟩ | ⟨q, st₀, t, T', L, E, ce, h0, X', hL, e1, e2, ⟨u, hp, hb, hF⟩, hce, hcv, hcl, st⟩
  · cases hv
    obtain ⟨k1, k2, k3⟩ := vx_keep h0 e1 hS hA hf hL hF
    obtain ⟨t2, a1, b1⟩ := kk u t T'.heap (locs ++ L) e1.symm (by rw [← e2]; exact X'.warmed.alike) hp hb k1 k2 k3 T' rfl X'
    exact ⟨t2, st t2 a1, b1⟩
  · obtain ⟨k1, k2, k3⟩ := vx_keep h0 e1 hS hAX hf hL hF
    obtain ⟨t2, a1, b1⟩ := kx E ce q u t T'.heap (locs ++ L) e1.symm (by rw [← e2]; exact X'.warmed.alike) hp hb k1 k2 k3 (by rw [e1]; exact hce) hcv hcl T' rfl X'
    exact ⟨t2, st.trans a1, b1⟩
/-- caught by the row x of this method's table; the rows ahead don't take it -/
theorem vx_catch {own name : String} {E : String} {ce : Cell} {q : Addr} (hown : s.vm.findClass own = some m.cls) (pre : List ExceptionTableEntry) (x : ExceptionTableEntry) (suf : List ExceptionTableEntry) (hsplit : c.exceptionTable.toList = pre ++ x :: suf)
    (hpass : ∀ z ∈ pre, covers z pc = false ∨ (z.catchType ≠ 0 ∧ ∃ nm : String, (Cond.classLink own z.catchType nm).before args s = true ∧ va_Nc E nm s)) (hx : covers x pc = true) (h0 : x.catchType ≠ 0)
    (hlink : (Cond.classLink own x.catchType name).before args s = true) (hcast : (Cond.castable E name).before args s = true) (hcell : H[q]? = some ce) (hv : ce.vm = .none) (hcl : s.vm.findClass E = some ce.cls)
    (kk : W p l e R s m args below meth c H locs cells slots Q (F0 m x.handlerPc ls [.ref q])) : vx_W p l e R s m args below meth c H locs cells slots Q (F0 m pc ls rest) q := by
  intro T hT X
  have hpl : e.platform.magicAccessors = ({} : Platform).magicAccessors := by rw [X.admits.platform]
  obtain ⟨c3, c4, hc3, hc4, hasg⟩ := Cond.castable_spec hcast
  cases Option.some.inj (hc3.symm.trans hcl)
  obtain ⟨c5, hc5, hcl5⟩ := Cond.classLink_spec hown hlink e.platform hpl
  cases Option.some.inj (hc4.symm.trans hc5)
  obtain ⟨vm', X', st⟩ := X.thenCaughtThrough q (g := F0 m pc ls rest) rfl (Steps.refl _) (by rw [hT]; exact hcell) (by rw [hv]; rfl) (by obtain ⟨k9, h9, -⟩ := Vm.findClass_spec hcl; exact ⟨k9, h9⟩) pre x suf hsplit
    (fun z hz => by
      rcases hpass z hz with h | ⟨hz0, nm, hl1, hn1⟩
      · exact Or.inl h
      · obtain ⟨c6, hc6, hcl6⟩ := Cond.classLink_spec hown hl1 e.platform hpl
        obtain ⟨a8, b8, h1, h2, h3⟩ := hn1
        cases Option.some.inj (h1.symm.trans hcl)
        cases Option.some.inj (h2.symm.trans hc6)
        exact Or.inr ⟨hz0, _, hcl6, h3⟩) hx (Or.inr ⟨h0, c4, hcl5, hasg⟩)
  obtain ⟨t, a1, b1⟩ := kk (T.setVm vm') hT X'
  exact ⟨t, st.trans a1, b1⟩
end Rows
section Ends
variable {p : Program} {l : Launch} {e : Env} {R : Room} {s : State} {m : MethodId} {args : Array Value} {below : List Frame} {meth : Method} {c : Code} {H : Heap} {locs : List Loc} {cells slots : Nat} {Q : State → Prop}
variable {mc ms : Nat} {free : Addr → Prop} {A0 A1 : Nat → Prop} {H0 : Heap} {a : Array Value} {ls : Array Slot} {st0 rest : List Value}
variable {Qc : Array Value → State → Outcome → State → Prop} {XC : String → State → State → Prop}
/-- what a body that may throw owes at its end -/
def vx_MQ (below : List Frame) (Qc : Array Value → State → Outcome → State → Prop) (XC : String → State → State → Prop) (a : Array Value) (s : State) (mc ms : Nat) (free : Addr → Prop) : State → Prop := fun t =>
  ∃ o, t.status = .running ∧ Ended t below o ∧ vx_Q Qc XC mc ms free a s o t
theorem vx_ret {g : JFrame} {mc ms : Nat} (k : W p l e R s m args below meth c H locs cells slots (MQ below Qc args s mc ms free) g) : W p l e R s m args below meth c H locs cells slots (vx_MQ below Qc XC args s mc ms free) g := by
  intro T hT X
  obtain ⟨t, a1, o, b1, b2, b3, b4⟩ := k T hT X
  exact ⟨t, a1, o, b1, b2, Or.inl ⟨b3, b4⟩⟩
/-- not caught here: it goes on to the caller -/
theorem vx_widen {g : JFrame} {q : Addr} {k n : Nat} (h1 : cells ≤ k) (h2 : slots ≤ n) (kk : vx_W p l e R s m args below meth c H locs k n Q g q) : vx_W p l e R s m args below meth c H locs cells slots Q g q := fun T hT X => kk T hT (stand_widen X h1 h2)
theorem vx_out {pc : Nat} {E : String} {ce : Cell} {q : Addr} {mc ms : Nat} (hout : ∀ x ∈ c.exceptionTable.toList, covers x pc = false) (hlocks : meth.locks = false) (hcell : H[q]? = some ce) (hv : ce.vm = .none) (hcl : s.vm.findClass E = some ce.cls)
    (hx : ∀ t : State, t.heap = H → s.vm.Alike t.vm → XC E s t) (hf : ∀ z ∈ locs, free z.base) (hc : cells ≤ mc) (hs : slots ≤ ms) :
    vx_W p l e R s m args below meth c H locs cells slots (vx_MQ below Qc XC args s mc ms free) (F0 m pc ls rest) q := by
  intro T hT X
  obtain ⟨st1, hrun, hend, hW, hsm⟩ := X.leaveThrown q (g := F0 m pc ls rest) rfl rfl rfl hout hlocks
  have hcell9 : (T.setFrames (.throwing q :: below)).heap[q]? = some ce := by
    show T.heap[q]? = some ce
    rw [hT]; exact hcell
  exact ⟨_, st1, .threw q, hrun, hend, Or.inr ⟨q, rfl, E, ce, locs, hx _ hT hW.alike, hcell9, hv, hcl, hW, hsm.mono hc hs, hf⟩⟩
theorem vx_frame {U : State} {k n : Nat} (h : s.sameButNew ({ U with vm := s.vm } : State) locs k n) : s.heap.size ≤ U.heap.size ∧ ∀ q : Nat, q < s.heap.size → (∀ z ∈ locs, z.base ≠ q) → U.heap[q]? = s.heap[q]? := by
  obtain ⟨-, h2, -, -, -, h6⟩ := h
  refine ⟨h2, fun q hq hz => ?_⟩
  obtain ⟨c9, e1, e2, e3, e4⟩ := h6 q _ (Array.getElem?_eq_getElem hq)
  have hs : c9.slots = (s.heap[q]).slots := Array.ext_getElem? fun i => e4 i fun hm => hz _ hm rfl
  have h9 : c9 = s.heap[q] := by
    rw [hs] at e2
    exact e2
  have e5 : U.heap[q]? = some c9 := e1
  rw [e5, h9, Array.getElem?_eq_getElem hq]
/-- the words of a throw but the four that speak of the heap -/
def vx_no (w : Cond) : Bool := decide (w ≠ .isRef (.static Bundle.tN "UNASSIGNED_STACK" Bundle.steD)) && decide (w ≠ .isRef (.static Bundle.tN "SUPPRESSED_SENTINEL" Bundle.listD)) && decide (w ≠ .laysStatic Bundle.tN "UNASSIGNED_STACK" Bundle.steD) && decide (w ≠ .laysStatic Bundle.tN "SUPPRESSED_SENTINEL" Bundle.listD)
def vx_at0 (own : String) (ic : Nat) (X : String) (names : List String) : List Cond := (Bundle.ownAtoms0 own ic X names).filter vx_no
def vx_atS (own : String) (ic : Nat) (X : String) (names : List String) : List Cond := (Bundle.ownAtoms own ic X names).filter vx_no
/-- a word that the tables alone decide, or a good one -/
def vx_ot (w : Cond) : Bool := w.onTables || goodWord w
theorem vx_ot_at {args a' : Array Value} {s U : State} {w : Cond} (hW : s.WarmedH U.vm) (hvm : s.vm = U.vm) (hg : vx_ot w = true) (h : w.before args s = true) : w.before a' U = true := by
  simp only [vx_ot, Bool.or_eq_true] at hg
  rcases hg with hg | hg
  · exact va_tabs hg hvm h
  · exact word_at hW (good_of_word hg) h
/-- a list's words: the good ones out of the method's own list, the others by premises of their own -/
theorem vx_hat {args : Array Value} {s : State} {L B : List Cond} (h1 : ∀ w ∈ L.filter goodWord, w.before args s = true) (h2 : ∀ w ∈ L.filter (fun w => !goodWord w), w ∈ B) (h3 : ∀ w ∈ B, w.before args s = true) : ∀ w ∈ L, w.before args s = true := by
  intro w hw
  by_cases g : goodWord w = true
  · exact h1 w (List.mem_filter.mpr ⟨hw, g⟩)
  · refine h3 w (h2 w (List.mem_filter.mpr ⟨hw, ?_⟩))
    show (!goodWord w) = true
    cases hgw : goodWord w
    · rfl
    · exact absurd hgw g
theorem vx_c {args : Array Value} {s : State} {w : Cond} {B : List Cond} (h : w.before args s = true) (t : ∀ w ∈ B, w.before args s = true) : ∀ w' ∈ w :: B, w'.before args s = true := fun w' h' => (List.mem_cons.mp h').elim (fun e => by rw [e]; exact h) (t w')
theorem vx_n {args : Array Value} {s : State} : ∀ w ∈ ([] : List Cond), w.before args s = true := fun _ h => nomatch h
theorem vx_own {args : Array Value} {s : State} {L : List Cond} (h1 : ∀ w ∈ L.filter vx_no, w.before args s = true)
    (hU : (Cond.isRef (.static Bundle.tN "UNASSIGNED_STACK" Bundle.steD)).before args s = true) (hN : (Cond.isRef (.static Bundle.tN "SUPPRESSED_SENTINEL" Bundle.listD)).before args s = true)
    (lU : (Cond.laysStatic Bundle.tN "UNASSIGNED_STACK" Bundle.steD).before args s = true) (lN : (Cond.laysStatic Bundle.tN "SUPPRESSED_SENTINEL" Bundle.listD).before args s = true) : ∀ w ∈ L, w.before args s = true := by
  intro w hw
  by_cases e1 : w = .isRef (.static Bundle.tN "UNASSIGNED_STACK" Bundle.steD)
  · rw [e1]; exact hU
  · by_cases e2 : w = .isRef (.static Bundle.tN "SUPPRESSED_SENTINEL" Bundle.listD)
    · rw [e2]; exact hN
    · by_cases e3 : w = .laysStatic Bundle.tN "UNASSIGNED_STACK" Bundle.steD
      · rw [e3]; exact lU
      · by_cases e4 : w = .laysStatic Bundle.tN "SUPPRESSED_SENTINEL" Bundle.listD
        · rw [e4]; exact lN
        · exact h1 w (List.mem_filter.mpr ⟨hw, by unfold vx_no; rw [decide_eq_true e1, decide_eq_true e2, decide_eq_true e3, decide_eq_true e4]; rfl⟩)
/-- where a static field lies, its class's statics cell in H -/
def vx_L (C n d : String) (A : Nat → Prop) (U : State) (H : Heap) : Prop := ∃ (c : ClassId) (k : Class) (i : Nat) (f : Field) (a : Nat) (cell : Cell), U.vm.findClass C = some c ∧ U.fieldFound? C n d = some (c, k, i, f) ∧ f.isStatic = true ∧ k.statics = some a ∧ H[a]? = some cell ∧ cell.vm.isStatics = true ∧ cell.cls = c ∧ f.slot < cell.slots.size ∧ k.staticTypes[f.slot]? = some f.type ∧ ¬ A a
theorem vx_L.moved {C n d : String} {A : Nat → Prop} {u U : State} {H : Heap} (hvm : u.vm.Alike U.vm) (h : vx_L C n d A u H) : vx_L C n d A U H := by
  obtain ⟨c, k, i, f, a, cell, h1, h2, h3, h4, h5, h6, h7, h8, h9, h10⟩ := h
  obtain ⟨k', hi', he⟩ := State.fieldFound?_setVm hvm h2
  exact ⟨c, k', i, f, a, cell, by rw [hvm.findClass]; exact h1, hi', h3, by rw [he]; exact h4, h5, h6, h7, h8, by rw [he]; exact h9, h10⟩
theorem vx_L.kept {C n d : String} {A : Nat → Prop} {U : State} {H H1 : Heap} (h : vx_L C n d A U H) (hq : ∀ a : Nat, a < H.size → ¬ A a → H1[a]? = H[a]?) : vx_L C n d A U H1 := by
  obtain ⟨c, k, i, f, a, cell, h1, h2, h3, h4, h5, h6, h7, h8, h9, h10⟩ := h
  exact ⟨c, k, i, f, a, cell, h1, h2, h3, h4, by rw [hq a (Array.getElem?_eq_some_iff.mp h5).1 h10]; exact h5, h6, h7, h8, h9, h10⟩
theorem vx_L.narrow {C n d : String} {A B : Nat → Prop} {U : State} {H : Heap} (h : vx_L C n d A U H) (hAB : ∀ q, B q → A q) : vx_L C n d B U H := by
  obtain ⟨c, k, i, f, a, cell, h1, h2, h3, h4, h5, h6, h7, h8, h9, h10⟩ := h
  exact ⟨c, k, i, f, a, cell, h1, h2, h3, h4, h5, h6, h7, h8, h9, fun z => h10 (hAB _ z)⟩
theorem vx_L.word {C n d : String} {A : Nat → Prop} {s : State} {args : Array Value} (h : vx_L C n d A s s.heap) : (Cond.laysStatic C n d).before args s = true := by
  obtain ⟨c, k, i, f, a, cell, h1, h2, h3, h4, h5, h6, h7, h8, h9, -⟩ := h
  show (Cond.laysStatic C n d).holds args s none s [] = true
  exact Cond.laysStatic_of h1 h2 h3 h4 h5 h6 h7 h8 h9
/-- .. and what it holds: null or some reference -/
def vx_Zq (C n d : String) (A : Nat → Prop) (U : State) (H : Heap) : Prop := va_Zq C n d A U H ∧ vx_L C n d A U H
theorem vx_Zq.moved {C n d : String} {A : Nat → Prop} {u U : State} {H : Heap} (hvm : u.vm.Alike U.vm) (h : vx_Zq C n d A u H) : vx_Zq C n d A U H := ⟨va_Zq.moved hvm h.1, vx_L.moved hvm h.2⟩
theorem vx_Zq.kept {C n d : String} {A : Nat → Prop} {U : State} {H H1 : Heap} (h : vx_Zq C n d A U H) (hq : ∀ a : Nat, a < H.size → ¬ A a → H1[a]? = H[a]?) : vx_Zq C n d A U H1 := ⟨va_Zq.kept h.1 hq, vx_L.kept h.2 hq⟩
theorem vx_Zq.narrow {C n d : String} {A B : Nat → Prop} {U : State} {H : Heap} (h : vx_Zq C n d A U H) (hAB : ∀ q, B q → A q) : vx_Zq C n d B U H := ⟨va_Zq.narrow h.1 hAB, vx_L.narrow h.2 hAB⟩
theorem vx_Zqof {args : Array Value} {s : State} {C n d : String} {A : Nat → Prop} (hl : (Cond.laysStatic C n d).before args s = true) (hini : (Cond.initialized C).before args s = true) (h : (Cond.isRef (.static C n d)).before args s = true) (hA : ∀ a : Nat, a < s.heap.size → ¬ A a) : vx_Zq C n d A s s.heap := by
  refine ⟨va_Zqof hl hini h hA, ?_⟩
  obtain ⟨c, k, i, f, a, cell, h1, h2, h3, h4, h5, h6, h7, h8, h9⟩ := Cond.laysStatic_spec hl
  exact ⟨c, k, i, f, a, cell, h1, h2, h3, h4, h5, h6, h7, h8, h9, hA a (Array.getElem?_eq_some_iff.mp h5).1⟩
theorem vx_isRef {C n d : String} {v : Value} {A : Nat → Prop} {s : State} {args : Array Value} (h : va_Z C n d v A s s.heap) (hv : v.isRef = true) : (Cond.isRef (.static C n d)).before args s = true := by
  obtain ⟨cf, kf, fi, f, a, cell, h1, h2, h3, h4, h5, h6, h7, -⟩ := h
  have he : (Term.static C n d).eval args s none [] s = some v := by
    simp [Term.eval, State.fieldNamed?, h1, h2, h4, h5, h6, h7]
  simp only [Cond.before, Cond.holds, Cond.value, he]
  cases v <;> simp_all [Value.isRef]
theorem vx_isRefq {C n d : String} {A : Nat → Prop} {s : State} {args : Array Value} (h : va_Zq C n d A s s.heap) : (Cond.isRef (.static C n d)).before args s = true := by
  rcases h with h | ⟨t, h⟩
  · exact vx_isRef h rfl
  · exact vx_isRef h rfl
/-- the same frame, seen from here: as if the method were called anew in this heap -/
theorem vx_rebase {T : State} (X : Stand p l e R s m args below meth c T locs cells slots) {R' : Room} (hf : R'.frames ≤ R.frames) (hl : R'.locals ≤ R.locals) (hc : cells + R'.cells ≤ R.cells) (hs : slots + R'.slots ≤ R.slots) :
    Stand p l e R' ((T.setVm s.vm).setFrames (.invoking m args :: below)) m args below meth c T [] 0 0 := by
  have htop : (T.setVm s.vm).topJava?.isSome := X.here.top
  have hF : ((T.setVm s.vm).setFrames (.invoking m args :: below)).frames = .invoking m args :: below := State.frames_setFrames _ (State.cur_lt_of_top htop)
  obtain ⟨g₀, hg0⟩ := Option.isSome_iff_exists.mp htop
  obtain ⟨r, hr⟩ := State.topJava?_eq_some.mp hg0
  have hl9 : e.platform.stackLimits (T.setVm s.vm).me = e.platform.stackLimits s.me := X.limits
  have hb9 : (T.setVm s.vm).me.stackBytes = s.me.stackBytes := X.bytes
  refine ⟨X.admits, X.cas, X.clock, hF, ?_, X.hears, X.method, X.code, X.here, X.tail, X.warmed, ?_, ?_, ?_⟩
  · have h := X.room
    have hU : ((T.setVm s.vm).setFrames (.invoking m args :: below)).localsInUse = s.localsInUse := by
      rw [State.localsInUse_invoking hF (meth := meth) (c := c) X.method X.code, State.localsInUse_invoking X.frames X.method X.code]
    simp only [State.hasRoom, Bool.and_eq_true, decide_eq_true_eq] at h ⊢
    obtain ⟨⟨⟨⟨h1, h2, h3, h4, h5, h6⟩, h7⟩, h8⟩, h9⟩ := h
    rw [X.frames, List.length_cons] at h2 h3
    have q1 := X.heapSize
    have q2 := X.used
    simp only [hF, hU, List.length_cons, State.stackLimits_setFrames, State.stackBytes_setFrames, hl9, hb9]
    refine ⟨⟨⟨⟨by omega, by omega, by omega, by omega, by omega, h6⟩, ?_⟩, ?_⟩, X.book⟩
    · show T.heap.size + R'.cells ≤ e.platform.maxCells
      omega
    · show T.slotsUsed + R'.slots ≤ e.platform.maxSlots
      omega
  · rw [State.stackLimits_setFrames]; rfl
  · rw [State.stackBytes_setFrames]; rfl
  · refine ⟨?_, Nat.le_refl _, Nat.le_refl _, ?_, ?_, fun a c9 h9 => ⟨c9, h9, rfl, rfl, fun _ _ => rfl⟩⟩
    · obtain ⟨t, ht, -⟩ := State.frames_cons hr
      show T.setVm s.vm = { ((T.setVm s.vm).setFrames (.invoking m args :: below)).setFrames (T.setVm s.vm).frames with heap := T.heap, slotsUsed := T.slotsUsed }
      rw [State.setFrames_setFrames, State.setFrames_self ht]
      rfl
    · show T.slotsUsed = T.slotsUsed + ((T.heap.toList.drop T.heap.size).map (·.slots.size)).sum
      rw [List.drop_eq_nil_of_le (Nat.le_of_eq Array.length_toList)]
      rfl
    · show ((T.heap.toList.drop T.heap.size).map (·.slots.size)).sum ≤ 0
      rw [List.drop_eq_nil_of_le (Nat.le_of_eq Array.length_toList)]
      exact Nat.le_refl _
/-- 'throw new E()': new; dup; invokespecial; athrow -/
theorem vx_throw0 {cc : ByteArray} {pc : Nat} (hexec : p.tables.exec = Jvm.exec) (hb : c.code = cc) (hl : l.stackTraces = false) {own cls : String} {names : List String} {ik ic mc ms : Nat} {A : Nat → Prop}
    (hown : s.vm.findClass own = some m.cls) (hcls : Bundle.fit cls = true) (hnames : ∀ n ∈ names, Bundle.fit n = true)
    (hk : (Cond.classLink own ik cls).before args s = true) (hini : (Cond.initialized cls).before args s = true) (hat : ∀ w ∈ vx_at0 own ic cls names, w.before args s = true)
    (hgood : ∀ w ∈ Cond.classLink own ik cls :: Cond.initialized cls :: vx_at0 own ic cls names, vx_ot w = true)
    (hU : vx_Zq Bundle.tN "UNASSIGNED_STACK" Bundle.steD A s s.heap) (hN : vx_Zq Bundle.tN "SUPPRESSED_SENTINEL" Bundle.listD A s s.heap) (hS : va_S A s.heap H locs) (hsize : ls.size = c.maxLocals)
    (d0 : decode cc pc = .ok (.new ik, 3)) (d3 : decode cc (pc + 3) = .ok (.dup, 1)) (d4 : decode cc (pc + 4) = .ok (.invokespecial ic, 3)) (d7 : decode cc (pc + 7) = .ok (.athrow, 1))
    (hout : ∀ x ∈ c.exceptionTable.toList, covers x (pc + 7) = false)
    (hRframes : names.length + 3 < R.frames) (hRlocals : (rest.map fun v => v.category).sum + (13 * (names.length + 1) + 42) ≤ R.locals) (hRcells : cells + 1 ≤ R.cells) (hRslots : slots + 6 ≤ R.slots) (hlocks : meth.locks = false)
    (hx : ∀ t : State, s.vm.Alike t.vm → H.size ≤ t.heap.size → (∀ q : Nat, q < H.size → t.heap[q]? = H[q]?) → XC cls s t)
    (hf : ∀ z ∈ locs, free z.base) (hc : cells + 1 ≤ mc) (hs : slots + 6 ≤ ms) :
    W p l e R s m args below meth c H locs cells slots (vx_MQ below Qc XC args s mc ms free) (F0 m pc ls rest) := by
  intro T hT X
  have htr : e.platform.stackTraces = false := (show e.platform.stackTraces = l.stackTraces by rw [X.admits.platform]).trans hl
  have Y := vx_rebase X (R' := { frames := R.frames, locals := R.locals, cells := 1, slots := 6 }) (Nat.le_refl _) (Nat.le_refl _) hRcells hRslots
  obtain ⟨s', hA⟩ : ∃ z, z = (T.setVm s.vm).setFrames (.invoking m args :: below) := ⟨_, rfl⟩
  rw [← hA] at Y
  have hvm : s'.vm = s.vm := by rw [hA]; rfl
  have hhp : s'.heap = H := by rw [hA]; exact hT
  have hW0 : s.WarmedH s'.vm := by rw [hvm]; exact State.WarmedH.refl s
  have hat' : ∀ w ∈ vx_at0 own ic cls names, w.before args s' = true := fun w hw => vx_ot_at hW0 hvm.symm (hgood w (List.mem_cons_of_mem _ (List.mem_cons_of_mem _ hw))) (hat w hw)
  have hk' : (Cond.classLink own ik cls).before args s' = true := vx_ot_at hW0 hvm.symm (hgood _ List.mem_cons_self) hk
  have hini' : (Cond.initialized cls).before args s' = true := vx_ot_at hW0 hvm.symm (hgood _ (List.mem_cons_of_mem _ List.mem_cons_self)) hini
  have hU' : vx_Zq Bundle.tN "UNASSIGNED_STACK" Bundle.steD A s' s'.heap := by rw [hhp]; exact vx_Zq.moved hW0.alike (hU.kept hS.2.1)
  have hN' : vx_Zq Bundle.tN "SUPPRESSED_SENTINEL" Bundle.listD A s' s'.heap := by rw [hhp]; exact vx_Zq.moved hW0.alike (hN.kept hS.2.1)
  have h : ∀ w ∈ Bundle.ownAtoms0 own ic cls names, w.before args s' = true := vx_own hat' (vx_isRefq hU'.1) (vx_isRefq hN'.1) hU'.2.word hN'.2.word
  have hown' : s'.vm.findClass own = some m.cls := by rw [hvm]; exact hown
  have hins : (Cond.instantiable cls 6).before args s' = true := h _ (by simp [Bundle.ownAtoms0])
  obtain ⟨vm₁, cX, kX, hfX, hkX, -, -, X₁, st1⟩ := Y.newCold hexec (own := own) (C := cls) (index := ik) (n := 6) hown' hk' hins hini'
    (g := F0 m pc ls rest) rfl (by rw [hb]; exact d0) (Nat.le_refl _) (Nat.le_refl _)
  generalize hT1 : (T.setVm vm₁).pushCell { cls := cX, slots := kX.instanceTypes.map defaultValue, vm := .none } = T1 at X₁ st1
  have hcat : (Value.ref T.heap.size).category = 1 := rfl
  have hcellA : T1.heap[T.heap.size]? = some (freshCell cX kX) := by rw [← hT1]; exact State.heap_pushCell_size _ _
  have d3' : decode c.code (pc + 3) = .ok (.dup, 1) := by rw [hb]; exact d3
  obtain ⟨U, hsteps, hrun, hend, hW, hsame, ce, hce, hO⟩ := X₁.ctorThrow0 hexec htr (own := own) (cls := cls) (names := names) (ic := ic) hown' hcls hnames h (fun x hx => nomatch hx) hfX hkX hcellA (by rw [hhp, hT]; exact Nat.le_refl _)
    (g := { method := m, pc := pc + 4, locals := ls, stack := .ref T.heap.size :: .ref T.heap.size :: rest, locked := none }) rfl hsize rfl rfl (rest := rest) rfl
    (by rw [hb]; exact d4) (by rw [hb]; exact d7) hout hRframes (by simp only [List.map_cons, List.sum_cons, hcat]; omega) hlocks
  obtain ⟨f1, f2⟩ := vx_frame hsame
  rw [hhp] at f1 f2
  have hWs : s.WarmedH U.vm := State.WarmedH.trans hW0 hW
  have hcl : s.vm.findClass cls = some ce.cls := by
    have h9 := hO.cls
    rw [hvm] at h9
    exact h9
  have hall : s.sameButNew ({ U with vm := s.vm } : State) locs mc ms := by
    subst hA
    obtain ⟨e1, e2⟩ := hsame
    rw [State.setFrames_setFrames] at e1
    have h2 : (T.setVm s.vm).sameButNew ({ U with vm := s.vm } : State) [] (0 + 1) (0 + 6) := ⟨e1, e2⟩
    have h3 := X.same.trans h2
    rw [List.append_nil] at h3
    exact h3.mono hc hs
  refine ⟨U, ?_, .threw T.heap.size, hrun, hend, Or.inr ⟨T.heap.size, rfl, cls, ce, locs, hx U hWs.alike f1 (fun q hq => f2 q hq (fun z hz => nomatch hz)), hce, hO.vm, hcl, hWs, hall, hf⟩⟩
  refine st1 _ ?_
  show Steps p.tables e below (T1.setTop { method := m, pc := pc + 3, locals := ls, stack := .ref T.heap.size :: rest, locked := none }) _
  jvm_step X₁.here [X₁.here.top, hexec, d3', Value.category]
  exact hsteps
/-- 'throw new E("text")': new; dup; ldc; invokespecial; athrow -/
theorem vx_throwS {cc : ByteArray} {pc : Nat} (hexec : p.tables.exec = Jvm.exec) (hb : c.code = cc) (hl : l.stackTraces = false) {own cls text : String} {names : List String} {ik is ic mc ms sa : Nat} {A : Nat → Prop}
    (hown : s.vm.findClass own = some m.cls) (hcls : Bundle.fit cls = true) (hnames : ∀ n ∈ names, Bundle.fit n = true)
    (hk : (Cond.classLink own ik cls).before args s = true) (hini : (Cond.initialized cls).before args s = true) (hstr : vk_R own is text sa s) (hat : ∀ w ∈ vx_atS own ic cls names, w.before args s = true)
    (hgood : ∀ w ∈ Cond.classLink own ik cls :: Cond.initialized cls :: vx_atS own ic cls names, vx_ot w = true)
    (hU : vx_Zq Bundle.tN "UNASSIGNED_STACK" Bundle.steD A s s.heap) (hN : vx_Zq Bundle.tN "SUPPRESSED_SENTINEL" Bundle.listD A s s.heap) (hS : va_S A s.heap H locs) (hsize : ls.size = c.maxLocals)
    (d0 : decode cc pc = .ok (.new ik, 3)) (d3 : decode cc (pc + 3) = .ok (.dup, 1)) (d4 : decode cc (pc + 4) = .ok (.ldc is, 2)) (d6 : decode cc (pc + 6) = .ok (.invokespecial ic, 3)) (d9 : decode cc (pc + 9) = .ok (.athrow, 1))
    (hout : ∀ x ∈ c.exceptionTable.toList, covers x (pc + 9) = false)
    (hRframes : names.length + 3 < R.frames) (hRlocals : (rest.map fun v => v.category).sum + (13 * (names.length + 1) + 43) ≤ R.locals) (hRcells : cells + 1 ≤ R.cells) (hRslots : slots + 6 ≤ R.slots) (hlocks : meth.locks = false)
    (hx : ∀ t : State, s.vm.Alike t.vm → H.size ≤ t.heap.size → (∀ q : Nat, q < H.size → t.heap[q]? = H[q]?) → XC cls s t)
    (hf : ∀ z ∈ locs, free z.base) (hc : cells + 1 ≤ mc) (hs : slots + 6 ≤ ms) :
    W p l e R s m args below meth c H locs cells slots (vx_MQ below Qc XC args s mc ms free) (F0 m pc ls rest) := by
  intro T hT X
  have htr : e.platform.stackTraces = false := (show e.platform.stackTraces = l.stackTraces by rw [X.admits.platform]).trans hl
  have Y := vx_rebase X (R' := { frames := R.frames, locals := R.locals, cells := 1, slots := 6 }) (Nat.le_refl _) (Nat.le_refl _) hRcells hRslots
  obtain ⟨s', hA⟩ : ∃ z, z = (T.setVm s.vm).setFrames (.invoking m args :: below) := ⟨_, rfl⟩
  rw [← hA] at Y
  have hvm : s'.vm = s.vm := by rw [hA]; rfl
  have hhp : s'.heap = H := by rw [hA]; exact hT
  have hW0 : s.WarmedH s'.vm := by rw [hvm]; exact State.WarmedH.refl s
  have hat' : ∀ w ∈ vx_atS own ic cls names, w.before args s' = true := fun w hw => vx_ot_at hW0 hvm.symm (hgood w (List.mem_cons_of_mem _ (List.mem_cons_of_mem _ hw))) (hat w hw)
  have hk' : (Cond.classLink own ik cls).before args s' = true := vx_ot_at hW0 hvm.symm (hgood _ List.mem_cons_self) hk
  have hini' : (Cond.initialized cls).before args s' = true := vx_ot_at hW0 hvm.symm (hgood _ (List.mem_cons_of_mem _ List.mem_cons_self)) hini
  have hU' : vx_Zq Bundle.tN "UNASSIGNED_STACK" Bundle.steD A s' s'.heap := by rw [hhp]; exact vx_Zq.moved hW0.alike (hU.kept hS.2.1)
  have hN' : vx_Zq Bundle.tN "SUPPRESSED_SENTINEL" Bundle.listD A s' s'.heap := by rw [hhp]; exact vx_Zq.moved hW0.alike (hN.kept hS.2.1)
  have h : ∀ w ∈ Bundle.ownAtoms own ic cls names, w.before args s' = true := vx_own hat' (vx_isRefq hU'.1) (vx_isRefq hN'.1) hU'.2.word hN'.2.word
  have hown' : s'.vm.findClass own = some m.cls := by rw [hvm]; exact hown
  have hins : (Cond.instantiable cls 6).before args s' = true := h _ (by simp [Bundle.ownAtoms])
  obtain ⟨vm₁, cX, kX, hfX, hkX, -, -, X₁, st1⟩ := Y.newCold hexec (own := own) (C := cls) (index := ik) (n := 6) hown' hk' hins hini'
    (g := F0 m pc ls rest) rfl (by rw [hb]; exact d0) (Nat.le_refl _) (Nat.le_refl _)
  generalize hT1 : (T.setVm vm₁).pushCell { cls := cX, slots := kX.instanceTypes.map defaultValue, vm := .none } = T1 at X₁ st1
  have hcat : (Value.ref T.heap.size).category = 1 := rfl
  have hcellA : T1.heap[T.heap.size]? = some (freshCell cX kX) := by rw [← hT1]; exact State.heap_pushCell_size _ _
  have d3' : decode c.code (pc + 3) = .ok (.dup, 1) := by rw [hb]; exact d3
  have d4' : decode c.code (pc + 4) = .ok (.ldc is, 2) := by rw [hb]; exact d4
  have hstr' : vk_R own is text sa s' := vk_R.warm hW0 hstr
  obtain ⟨U, hsteps, hrun, hend, hW, hsame, ce, hce, hO⟩ := X₁.ctorThrowS hexec htr (own := own) (cls := cls) (names := names) (ic := ic) hown' hcls hnames h (fun x hx => nomatch hx) hfX hkX hcellA (by rw [hhp, hT]; exact Nat.le_refl _) (msg := .ref sa) rfl
    (g := { method := m, pc := pc + 6, locals := ls, stack := .ref sa :: .ref T.heap.size :: .ref T.heap.size :: rest, locked := none }) rfl hsize rfl rfl (rest := rest) rfl
    (by rw [hb]; exact d6) (by rw [hb]; exact d9) hout hRframes (by simp only [List.map_cons, List.sum_cons, hcat]; omega) hlocks
  obtain ⟨f1, f2⟩ := vx_frame hsame
  rw [hhp] at f1 f2
  have hWs : s.WarmedH U.vm := State.WarmedH.trans hW0 hW
  have hcl : s.vm.findClass cls = some ce.cls := by
    have h9 := hO.cls
    rw [hvm] at h9
    exact h9
  have hall : s.sameButNew ({ U with vm := s.vm } : State) locs mc ms := by
    subst hA
    obtain ⟨e1, e2⟩ := hsame
    rw [State.setFrames_setFrames] at e1
    have h2 : (T.setVm s.vm).sameButNew ({ U with vm := s.vm } : State) [] (0 + 1) (0 + 6) := ⟨e1, e2⟩
    have h3 := X.same.trans h2
    rw [List.append_nil] at h3
    exact h3.mono hc hs
  refine ⟨U, ?_, .threw T.heap.size, hrun, hend, Or.inr ⟨T.heap.size, rfl, cls, ce, locs, hx U hWs.alike f1 (fun q hq => f2 q hq (fun z hz => nomatch hz)), hce, hO.vm, hcl, hWs, hall, hf⟩⟩
  refine st1 _ ?_
  show Steps p.tables e below (T1.setTop { method := m, pc := pc + 3, locals := ls, stack := .ref T.heap.size :: rest, locked := none }) _
  jvm_step X₁.here [X₁.here.top, hexec, d3', Value.category]
  exact X₁.ldcString hexec (own := own) (text := text) (index := is) (a := sa) hown' hstr'.1 hstr'.2
    (g := { method := m, pc := pc + 4, locals := ls, stack := .ref T.heap.size :: .ref T.heap.size :: rest, locked := none }) rfl d4' _ hsteps
/-- 'throw new E("text")', the text by a wide index -/
theorem vx_throwSW {cc : ByteArray} {pc : Nat} (hexec : p.tables.exec = Jvm.exec) (hb : c.code = cc) (hl : l.stackTraces = false) {own cls text : String} {names : List String} {ik is ic mc ms sa : Nat} {A : Nat → Prop}
    (hown : s.vm.findClass own = some m.cls) (hcls : Bundle.fit cls = true) (hnames : ∀ n ∈ names, Bundle.fit n = true)
    (hk : (Cond.classLink own ik cls).before args s = true) (hini : (Cond.initialized cls).before args s = true) (hstr : vk_R own is text sa s) (hat : ∀ w ∈ vx_atS own ic cls names, w.before args s = true)
    (hgood : ∀ w ∈ Cond.classLink own ik cls :: Cond.initialized cls :: vx_atS own ic cls names, vx_ot w = true)
    (hU : vx_Zq Bundle.tN "UNASSIGNED_STACK" Bundle.steD A s s.heap) (hN : vx_Zq Bundle.tN "SUPPRESSED_SENTINEL" Bundle.listD A s s.heap) (hS : va_S A s.heap H locs) (hsize : ls.size = c.maxLocals)
    (d0 : decode cc pc = .ok (.new ik, 3)) (d3 : decode cc (pc + 3) = .ok (.dup, 1)) (d4 : decode cc (pc + 4) = .ok (.ldc_w is, 3)) (d7 : decode cc (pc + 7) = .ok (.invokespecial ic, 3)) (d10 : decode cc (pc + 10) = .ok (.athrow, 1))
    (hout : ∀ x ∈ c.exceptionTable.toList, covers x (pc + 10) = false)
    (hRframes : names.length + 3 < R.frames) (hRlocals : (rest.map fun v => v.category).sum + (13 * (names.length + 1) + 43) ≤ R.locals) (hRcells : cells + 1 ≤ R.cells) (hRslots : slots + 6 ≤ R.slots) (hlocks : meth.locks = false)
    (hx : ∀ t : State, s.vm.Alike t.vm → H.size ≤ t.heap.size → (∀ q : Nat, q < H.size → t.heap[q]? = H[q]?) → XC cls s t)
    (hf : ∀ z ∈ locs, free z.base) (hc : cells + 1 ≤ mc) (hs : slots + 6 ≤ ms) :
    W p l e R s m args below meth c H locs cells slots (vx_MQ below Qc XC args s mc ms free) (F0 m pc ls rest) := by
  intro T hT X
  have htr : e.platform.stackTraces = false := (show e.platform.stackTraces = l.stackTraces by rw [X.admits.platform]).trans hl
  have Y := vx_rebase X (R' := { frames := R.frames, locals := R.locals, cells := 1, slots := 6 }) (Nat.le_refl _) (Nat.le_refl _) hRcells hRslots
  obtain ⟨s', hA⟩ : ∃ z, z = (T.setVm s.vm).setFrames (.invoking m args :: below) := ⟨_, rfl⟩
  rw [← hA] at Y
  have hvm : s'.vm = s.vm := by rw [hA]; rfl
  have hhp : s'.heap = H := by rw [hA]; exact hT
  have hW0 : s.WarmedH s'.vm := by rw [hvm]; exact State.WarmedH.refl s
  have hat' : ∀ w ∈ vx_atS own ic cls names, w.before args s' = true := fun w hw => vx_ot_at hW0 hvm.symm (hgood w (List.mem_cons_of_mem _ (List.mem_cons_of_mem _ hw))) (hat w hw)
  have hk' : (Cond.classLink own ik cls).before args s' = true := vx_ot_at hW0 hvm.symm (hgood _ List.mem_cons_self) hk
  have hini' : (Cond.initialized cls).before args s' = true := vx_ot_at hW0 hvm.symm (hgood _ (List.mem_cons_of_mem _ List.mem_cons_self)) hini
  have hU' : vx_Zq Bundle.tN "UNASSIGNED_STACK" Bundle.steD A s' s'.heap := by rw [hhp]; exact vx_Zq.moved hW0.alike (hU.kept hS.2.1)
  have hN' : vx_Zq Bundle.tN "SUPPRESSED_SENTINEL" Bundle.listD A s' s'.heap := by rw [hhp]; exact vx_Zq.moved hW0.alike (hN.kept hS.2.1)
  have h : ∀ w ∈ Bundle.ownAtoms own ic cls names, w.before args s' = true := vx_own hat' (vx_isRefq hU'.1) (vx_isRefq hN'.1) hU'.2.word hN'.2.word
  have hown' : s'.vm.findClass own = some m.cls := by rw [hvm]; exact hown
  have hins : (Cond.instantiable cls 6).before args s' = true := h _ (by simp [Bundle.ownAtoms])
  obtain ⟨vm₁, cX, kX, hfX, hkX, -, -, X₁, st1⟩ := Y.newCold hexec (own := own) (C := cls) (index := ik) (n := 6) hown' hk' hins hini'
    (g := F0 m pc ls rest) rfl (by rw [hb]; exact d0) (Nat.le_refl _) (Nat.le_refl _)
  generalize hT1 : (T.setVm vm₁).pushCell { cls := cX, slots := kX.instanceTypes.map defaultValue, vm := .none } = T1 at X₁ st1
  have hcat : (Value.ref T.heap.size).category = 1 := rfl
  have hcellA : T1.heap[T.heap.size]? = some (freshCell cX kX) := by rw [← hT1]; exact State.heap_pushCell_size _ _
  have d3' : decode c.code (pc + 3) = .ok (.dup, 1) := by rw [hb]; exact d3
  have d4' : decode c.code (pc + 4) = .ok (.ldc_w is, 3) := by rw [hb]; exact d4
  have hstr' : vk_R own is text sa s' := vk_R.warm hW0 hstr
  obtain ⟨U, hsteps, hrun, hend, hW, hsame, ce, hce, hO⟩ := X₁.ctorThrowS hexec htr (own := own) (cls := cls) (names := names) (ic := ic) hown' hcls hnames h (fun x hx => nomatch hx) hfX hkX hcellA (by rw [hhp, hT]; exact Nat.le_refl _) (msg := .ref sa) rfl
    (g := { method := m, pc := pc + 7, locals := ls, stack := .ref sa :: .ref T.heap.size :: .ref T.heap.size :: rest, locked := none }) rfl hsize rfl rfl (rest := rest) rfl
    (by rw [hb]; exact d7) (by rw [hb]; exact d10) hout hRframes (by simp only [List.map_cons, List.sum_cons, hcat]; omega) hlocks
  obtain ⟨f1, f2⟩ := vx_frame hsame
  rw [hhp] at f1 f2
  have hWs : s.WarmedH U.vm := State.WarmedH.trans hW0 hW
  have hcl : s.vm.findClass cls = some ce.cls := by
    have h9 := hO.cls
    rw [hvm] at h9
    exact h9
  have hall : s.sameButNew ({ U with vm := s.vm } : State) locs mc ms := by
    subst hA
    obtain ⟨e1, e2⟩ := hsame
    rw [State.setFrames_setFrames] at e1
    have h2 : (T.setVm s.vm).sameButNew ({ U with vm := s.vm } : State) [] (0 + 1) (0 + 6) := ⟨e1, e2⟩
    have h3 := X.same.trans h2
    rw [List.append_nil] at h3
    exact h3.mono hc hs
  refine ⟨U, ?_, .threw T.heap.size, hrun, hend, Or.inr ⟨T.heap.size, rfl, cls, ce, locs, hx U hWs.alike f1 (fun q hq => f2 q hq (fun z hz => nomatch hz)), hce, hO.vm, hcl, hWs, hall, hf⟩⟩
  refine st1 _ ?_
  show Steps p.tables e below (T1.setTop { method := m, pc := pc + 3, locals := ls, stack := .ref T.heap.size :: rest, locked := none }) _
  jvm_step X₁.here [X₁.here.top, hexec, d3', Value.category]
  exact X₁.ldcStringW hexec (own := own) (text := text) (index := is) (a := sa) hown' hstr'.1 hstr'.2
    (g := { method := m, pc := pc + 4, locals := ls, stack := .ref T.heap.size :: .ref T.heap.size :: rest, locked := none }) rfl d4' _ hsteps
end Ends
section Bodies
variable {l : Launch}
theorem vx_ofW {y : MethodName} {ws ws' : List Cond} {rm : Room} {Pc : Array Value → State → Prop} {Qc : Array Value → State → Outcome → State → Prop} {XC : String → State → State → Prop} {mc ms : Nat} {free : Addr → Prop} {cc : ByteArray} {maxL : Nat} {ret : Option FieldType}
    (hy : plainName y.cls = true) (hw : ws = Cond.code y cc maxL ret :: ws')
    (body : ∀ p e s m args below meth c s₁, BodyLoose p l y (headSpec ws rm) cc maxL ret e s m args below meth c s₁ → c.maxLocals = maxL → (∀ x ∈ c.exceptionTable.toList, False) → Pc args s →
      W p l e (headSpec ws rm).room s m args below meth c s.heap [] 0 0 (vx_MQ below Qc XC args s mc ms free) (entryFrame m args maxL)) : vx_Met l y ws rm Pc Qc XC mc ms free := by
  refine MetFree.of_bodyS (code := cc) (maxLocals := maxL) (ret := ret) hy ?_ ?_
  · intro args s m h hn
    obtain ⟨meth, c, h1, h2, h3, h4, h5, h6, -, -⟩ := Cond.code_spec hn (atoms_spec (ws := ws) h _ (by rw [hw]; exact List.mem_cons_self))
    exact ⟨meth, c, h1, h2, h3, h4, h5, h6⟩
  · intro p e s m args below meth c s₁ B hml hP _
    have hh0 : s₁.heap = s.heap := by rw [B.state]; rfl
    have ht : ∀ x ∈ c.exceptionTable.toList, False := by
      obtain ⟨meth9, c9, h1, h2, -, -, -, -, h7, -⟩ := Cond.code_spec B.named (atoms_spec (ws := ws) B.pre _ (by rw [hw]; exact List.mem_cons_self))
      cases Option.some.inj (h1.symm.trans B.method)
      cases Option.some.inj (h2.symm.trans (Stand.of_body B).code)
      intro x hx
      rw [Array.isEmpty_iff.mp h7] at hx
      cases hx
    obtain ⟨t, a1, o, b1, b2, b3⟩ := body p e s m args below meth c s₁ B hml ht hP s₁ hh0 (Stand.of_body B)
    exact ⟨t, o, a1, b1, b2, b3⟩
/-- the table of a body with handlers -/
theorem vx_table {p : Program} {x y : MethodName} {S : Spec} {cc bytes : ByteArray} {maxL maxL' : Nat} {ret ret' : Option FieldType} {e : Env} {s s₁ : State} {m : MethodId} {args : Array Value} {below : List Frame} {meth : Method} {c : Code} {hh : List (Nat × Nat × Nat × Nat)}
    (B : BodyLoose p l y S cc maxL ret e s m args below meth c s₁) (h : (Cond.codeWith y bytes maxL' ret' hh).before args s = true) : c.exceptionTable.toList = tableOf hh := by
  obtain ⟨m9, meth9, c9, hn9, h1, h2, -, -, h6, -⟩ := Cond.codeWith_spec h
  cases Option.some.inj (hn9.symm.trans B.named)
  cases Option.some.inj (h1.symm.trans B.method)
  cases Option.some.inj (h2.symm.trans (Stand.of_body B).code)
  rw [← h6, table_eq]
end Bodies
end VXA
/-! ===== END ===== -/
/-! ===== BEGIN a static call of a method with an exception table ===== -/
section VXS
variable {p : Program} {l : Launch} {e : Env} {R : Room} {s : State} {m : MethodId} {args : Array Value} {below : List Frame} {meth : Method} {c : Code} {T : State} {H : Heap} {locs : List Loc} {cells slots : Nat}
abbrev vx_CSW (R : Room) (s : State) (args : Array Value) (own : String) (index : Nat) (y : MethodName) (bytes : ByteArray) (maxL : Nat) (ret : Option FieldType) (hh : List (Nat × Nat × Nat × Nat)) (ws : List Cond) (rm : Room) (mc ms n : Nat) : Prop :=
  (rm.cells = mc ∧ rm.slots = ms ∧ rm.frames + 1 ≤ R.frames ∧ 8 + (maxL + 11) + rm.locals ≤ R.locals ∧ (∀ w ∈ ws, ∀ (a' : Array Value) (U : State), s.WarmedH U.vm → w.before a' U = true) ∧ Cond.codeWith y bytes maxL ret hh ∈ ws) ∧
  (Cond.codeWith y bytes maxL ret hh).before args s = true ∧ (Cond.initialized y.cls).before args s = true ∧ (y.cls ≠ "java/lang/invoke/MethodHandle" ∧ y.cls ≠ "java/lang/invoke/VarHandle") ∧
  (∀ sig, parseMethodDescriptor y.desc = some sig → n = sig.parameters.length) ∧ (Cond.methodLink own index y).before args s = true ∧ (Cond.static y).before args s = true
theorem vx_cwSW {own : String} {index maxL mc ms : Nat} {y : MethodName} {bytes : ByteArray} {ret : Option FieldType} {hh : List (Nat × Nat × Nat × Nat)} {Ts ws ws' : List Cond} {rm : Room} (n : Nat) (ht : ∀ w ∈ Ts, w.before args s = true) (hT : GoodIn Ts (va_wsS own index y ws)) (hw : ws = Cond.codeWith y bytes maxL ret hh :: ws') (hrc : rm.cells = mc) (hrs : rm.slots = ms)
    (hd : y.cls ≠ "java/lang/invoke/MethodHandle" ∧ y.cls ≠ "java/lang/invoke/VarHandle" ∧ (parseMethodDescriptor y.desc).map (fun d => d.parameters.length) = some n) (hR : rm.frames + 1 ≤ R.frames ∧ 8 + (maxL + 11) + rm.locals ≤ R.locals) :
    vx_CSW R s args own index y bytes maxL ret hh ws rm mc ms n := by
  have ok : ∀ w ∈ va_wsS own index y ws, w.before args s = true := fun w h => ht w (hT w h).1
  have hG : GoodIn Ts ws := fun w h => hT w (by unfold va_wsS; exact List.mem_append_right _ h)
  have hc : Cond.codeWith y bytes maxL ret hh ∈ ws := by rw [hw]; exact List.mem_cons_self
  refine ⟨⟨hrc, hrs, hR.1, hR.2, pay_in ht hG, hc⟩, ht _ (hG _ hc).1, ok _ (by simp [va_wsS]), ⟨hd.1, hd.2.1⟩, fun sig h => ?_, ok _ (by simp [va_wsS]), ok _ (by simp [va_wsS])⟩
  have h2 := hd.2.2
  rw [h] at h2
  exact (Option.some.inj h2).symm
theorem vx_callSW (X : Stand p l e R s m args below meth c T locs cells slots) (hexec : p.tables.exec = Jvm.exec) {own : String} {index : Nat} {y : MethodName} {bytes : ByteArray} {maxL : Nat} {ret : Option FieldType} {hh : List (Nat × Nat × Nat × Nat)}
    (hown : s.vm.findClass own = some m.cls) (hlink : (Cond.methodLink own index y).before args s = true) (hstat : (Cond.static y).before args s = true) (hinit : (Cond.initialized y.cls).before args s = true)
    (hcode : (Cond.codeWith y bytes maxL ret hh).before args s = true) (hy : y.cls ≠ "java/lang/invoke/MethodHandle" ∧ y.cls ≠ "java/lang/invoke/VarHandle")
    {W9 : Nat} {Pre : Pt → Array Value → Prop} {Post : Pt → Array Value → Option Value → Pt → Prop} (hK : Back l R p e below s args y 3 W9 Pre Post)
    {g : JFrame} (hg : g.method = m) (hsize : g.locals.size = c.maxLocals) {argsL rest : List Value} (hlen : ∀ sig, parseMethodDescriptor y.desc = some sig → argsL.length = sig.parameters.length)
    (hstack : g.stack = argsL.reverse ++ rest) (hW : 2 * g.monitorRoom + (rest.map fun v => v.category).sum ≤ W9) (hdg : decode c.code g.pc = .ok (.invokestatic index, 3))
    (hpre : ∀ vm₁, s.WarmedH vm₁ → Pre ⟨T.setVm vm₁, locs, cells, slots⟩ argsL.toArray) :
    ∃ (v : Option Value) (vm₁ : Vm) (B : Pt), s.WarmedH vm₁ ∧ Stand p l e R s m args below meth c B.U B.locs B.cells B.slots ∧ Post ⟨T.setVm vm₁, locs, cells, slots⟩ argsL.toArray v B ∧
      ∀ target, Steps p.tables e below (B.U.setTop { g with pc := g.pc + 3, stack := v.toList ++ rest }) target → Steps p.tables e below (T.setTop g) target := by
  obtain ⟨mk, methM, cM, hnamed, hmethM, -, -, -, -, -, -, hsigM⟩ := Cond.codeWith_spec hcode
  have hstatic : methM.isStatic = true := Cond.static_spec hnamed hmethM hstat
  obtain ⟨kP, hkP, -⟩ := className_of_methodNamed hnamed
  have hinitP : kP.init = .initialized := Cond.initialized_spec (findClass_of_methodNamed hnamed) hkP hinit
  obtain ⟨vm₁, X₁, hstep₁⟩ := X.invokestatic hexec hown hlink hnamed hmethM hstatic hkP hinitP hy (g := g) hg (argsL := argsL) (rest := rest) (hlen _ hsigM) hstack hdg
  obtain ⟨v, B, X', hpost, hsteps⟩ := hK m meth c ⟨T.setVm vm₁, locs, cells, slots⟩ { g with stack := rest } (.invokestatic index) mk argsL.toArray X₁ hg hsize hdg hW (X₁.named hnamed) (hpre vm₁ X₁.warmed)
  exact ⟨v, vm₁, B, X₁.warmed, X', hpost, fun target h => hstep₁ _ fun acts => by rw [doInvoke_state]; exact hsteps.trans h⟩
theorem vx_runSW {y : MethodName} {bytes cc : ByteArray} {maxL nL mc ms n index : Nat} {ret : Option FieldType} {hh : List (Nat × Nat × Nat × Nat)} {ws : List Cond} {rm : Room} {Pc : Array Value → State → Prop} {Qc : Array Value → State → Outcome → State → Prop} {free : Addr → Prop} {Ts : List Cond} {own : String} {As rest : List Value} {g : JFrame}
    (S : CallFix p m c cc nL s args Ts own) (hM : Met l y ws rm Pc Qc mc ms free) (cw : vx_CSW R s args own index y bytes maxL ret hh ws rm mc ms n) (hp : PreS s H Pc As)
    (hg : g.method = m) (hn : As.length = n) (hsize : g.locals.size = nL) (hstack : g.stack = As.reverse ++ rest) (hW : 2 * g.monitorRoom + (rest.map fun v => v.category).sum ≤ 8) (hdg : decode cc g.pc = .ok (.invokestatic index, 3)) (hf : cells + mc ≤ R.cells ∧ slots + ms ≤ R.slots) :
    va_Run p l e R s m args below meth c H locs cells slots mc ms g rest (Qc As.toArray) (free) := by
  obtain ⟨⟨hrc, hrs, hfr, hlo, hws, hcw⟩, hcode, hini, hy, hlen, hl, hstt⟩ := cw
  have hK : Back l R p e below s args y 3 8 (PreOf R mc ms Pc) (PostOf Qc mc ms free) := va_backW (hh := hh) (bytes := bytes) (maxL := maxL) (ret := ret) hM hp.1 hrc hrs hfr hlo hws hcw (fun a' U hW => word_at hW (Or.inl (by first | rfl | simp [Cond.onTables, Cond.keeps, Cond.steady])) hini)
  obtain ⟨hx, hb, hml, ho, -⟩ := S
  intro T hT X
  obtain ⟨v, vm₁, ⟨U', l2, c2, s2⟩, hW₁, X', ⟨g', mk, t, L, e1, e2, hq, h1, hL, h2, h3⟩, st⟩ := vx_callSW X hx (hh := hh) (bytes := bytes) (maxL := maxL) (ret := ret) ho hl hstt hini hcode hy hK hg (hsize.trans hml.symm) (argsL := As) (rest := rest) (fun sig h => hn.trans (hlen sig h)) hstack hW (by rw [hb]; exact hdg)
    (fun vm₁ hW₁ => ⟨hf.1, hf.2, hp.2 (T.setVm vm₁) hT hW₁⟩)
  dsimp only [Pt.U, Pt.locs, Pt.cells, Pt.slots] at X' e1 e2 h1 h2 h3 st
  subst h1; subst h2; subst h3
  exact ⟨v, (T.setVm vm₁).calling g' mk As.toArray, t, U', L, hT, X', hL, e1, e2, hq, st⟩
/-- not caught here, past rows that name other classes: it goes on to the caller -/
theorem vx_outP {p : Program} {l : Launch} {e : Env} {R : Room} {s : State} {m : MethodId} {args : Array Value} {below : List Frame} {meth : Method} {c : Code} {H : Heap} {locs : List Loc} {cells slots : Nat} {free : Addr → Prop} {ls : Array Slot} {rest : List Value} {Qc : Array Value → State → Outcome → State → Prop} {XC : String → State → State → Prop}
    {pc : Nat} {own E : String} {ce : Cell} {q : Addr} {mc ms : Nat} (hown : s.vm.findClass own = some m.cls) (hlocks : meth.locks = false)
    (hpass : ∀ z ∈ c.exceptionTable.toList, covers z pc = false ∨ (z.catchType ≠ 0 ∧ ∃ nm : String, (Cond.classLink own z.catchType nm).before args s = true ∧ va_Nc E nm s)) (hcell : H[q]? = some ce) (hv : ce.vm = .none) (hcl : s.vm.findClass E = some ce.cls)
    (hx : ∀ t : State, t.heap = H → s.vm.Alike t.vm → XC E s t) (hf : ∀ z ∈ locs, free z.base) (hc : cells ≤ mc) (hs : slots ≤ ms) :
    vx_W p l e R s m args below meth c H locs cells slots (vx_MQ below Qc XC args s mc ms free) (F0 m pc ls rest) q := by
  intro T hT X
  have hpl : e.platform.magicAccessors = ({} : Platform).magicAccessors := by rw [X.admits.platform]
  obtain ⟨vm', hW', X', st⟩ := X.outThrough hlocks q (g := F0 m pc ls rest) rfl rfl rfl (cell := ce) (by rw [hT]; exact hcell) (by rw [hv]; rfl)
    (by obtain ⟨k9, h9, -⟩ := Vm.findClass_spec hcl; exact ⟨k9, h9⟩) (fun z hz => by
      rcases hpass z hz with h | ⟨hz0, nm, hl1, hn1⟩
      · exact Or.inl h
      · obtain ⟨c6, hc6, hcl6⟩ := Cond.classLink_spec hown hl1 e.platform hpl
        obtain ⟨a8, b8, h1, h2, h3⟩ := hn1
        cases Option.some.inj (h1.symm.trans hcl)
        cases Option.some.inj (h2.symm.trans hc6)
        exact Or.inr ⟨hz0, _, hcl6, h3⟩)
  obtain ⟨g₀, hfr⟩ := X'.frames_eq
  have hcell9 : ((T.setVm vm').setFrames (.throwing q :: below)).heap[q]? = some ce := by
    show T.heap[q]? = some ce
    rw [hT]; exact hcell
  have hend : Ended ((T.setVm vm').setFrames (.throwing q :: below)) below (.threw q) := State.frames_setFrames _ (State.cur_lt_of_frames hfr)
  refine ⟨(T.setVm vm').setFrames (.throwing q :: below), ?_, .threw q, X'.here.running, hend, Or.inr ⟨q, rfl, E, ce, locs, hx _ hT (X'.ends _).1.alike, hcell9, hv, hcl, (X'.ends _).1, (X'.ends _).2.mono hc hs, hf⟩⟩
  rw [X.pushThrowing_eq]
  exact st
/-- a thing of a world lies in the heap -/
theorem vx_lt {D : va_G} {cl : List vw_C} {ws : va_W} {H1 : Heap} (h : va_P D cl ws H1) {k : Nat} {q : Nat × va_E} (hk : ws[k]? = some q) : q.1 < H1.size := (h k q hk).lt
end VXS
/-! ===== END ===== -/
/-! ===== BEGIN methods with a table of their own: called by a name, returning or throwing ===== -/
section VXH
/-! vx_backW, vx_callVX, vx_callSX, vx_callVW, vx_runVW, vx_runVX, vx_runSX, vx_ofWH follow the same proofs as their sisters above (Free/Laws.lean, Shelf42/LK1.lean); vx_outP calls Shelf42/NT130.lean (outThrough). -/
section
variable {l : Launch} {R : Room} {p : Program} {e : Env} {below : List Frame} {s : State} {sargs : Array Value} {y : MethodName} {len W9 : Nat}
theorem vx_backW {ws : List Cond} {rm : Room} {Pc : Array Value → State → Prop} {Qc : Array Value → State → Outcome → State → Prop} {XC : String → State → State → Prop} {mc ms : Nat} {free : Addr → Prop} {bytes : ByteArray} {maxL : Nat} {ret : Option FieldType} {hh : List (Nat × Nat × Nat × Nat)}
    (hM : vx_Met l y ws rm Pc Qc XC mc ms free) (hblind : FrameBlind Pc) (hrc : rm.cells = mc) (hrs : rm.slots = ms)
    (hframes : rm.frames + 1 ≤ R.frames) (hlocals : W9 + (maxL + 11) + rm.locals ≤ R.locals)
    (hws : ∀ w ∈ ws, ∀ a' U, s.WarmedH U.vm → w.before a' U = true) (hcode : Cond.codeWith y bytes maxL ret hh ∈ ws) (hinit : ∀ a' U, s.WarmedH U.vm → (Cond.initialized y.cls).before a' U = true) :
    vx_Back l R p e below s sargs y len W9 (PreOf R mc ms Pc) (PostOf Qc mc ms free) (vx_Post XC mc ms free) := by
  intro m meth c A g ig mk a X hg hsize hdg hW hn hp
  have h1 : (headSpec ws rm).pre.before a A.U = true := atoms_intro fun w hw => hws w hw _ _ X.warmed
  have h2 : (Cond.codeWith y bytes maxL ret hh).before a A.U = true := hws _ hcode _ _ X.warmed
  have h3 : (Cond.initialized y.cls).before a A.U = true := hinit _ _ X.warmed
  have h4 : A.cells + (headSpec ws rm).room.cells ≤ R.cells := by rw [show (headSpec ws rm).room.cells = mc from hrc]; exact hp.1
  have h5 : A.slots + (headSpec ws rm).room.slots ≤ R.slots := by rw [show (headSpec ws rm).room.slots = ms from hrs]; exact hp.2.1
  have hPc : Pc a (A.U.calling g mk a) := hblind _ _ _ _ hp.2.2
  obtain ⟨U, Ls, c0, s0⟩ := A
  dsimp only [Pt.U, Pt.locs, Pt.cells, Pt.slots] at h1 h2 h3 h4 h5 X hn hPc ⊢
  obtain ⟨m9, methY, cY, hn9, hmY, hcY, -, hlY, -⟩ := Cond.codeWith_spec h2
  cases Option.some.inj (hn9.symm.trans hn)
  obtain ⟨kY, hkY, -⟩ := className_of_methodNamed hn
  have hinitY : kY.init = .initialized := Cond.initialized_spec (findClass_of_methodNamed hn) hkY h3
  have h : At U g.method c below := by rw [hg]; exact X.here
  have hlocals9 : W9 + (maxL + 11) + (headSpec ws rm).room.locals ≤ R.locals := hlocals
  have happ : (headSpec ws rm).appliesLoose y e.platform (U.calling g mk a) = true :=
    Spec.appliesLoose_calling (g := g) h hdg hn hkY hinitY
      (X.room_calling (g := g) (R' := (headSpec ws rm).room) hsize hmY hcY hframes (by rw [hlY]; omega) h4 h5) h1
  obtain ⟨mid, hmid⟩ := h.above
  have hfr : (U.setTop g).frames = (.java g :: mid) ++ below := by rw [State.frames_setTop' g h.top, hmid]; rfl
  obtain ⟨o, s₂, hsteps, -, hend, hq⟩ := Steps.callFree hM p X.admits X.cas X.clock (acts := []) hfr happ hPc trivial
  have hq' : vx_Q Qc XC mc ms free a (U.calling g mk a) o s₂ := hq
  rw [State.frames_setTop' g h.top] at hend
  obtain ⟨g₀, hg0⟩ := Option.isSome_iff_exists.mp h.top
  obtain ⟨r, hr⟩ := State.topJava?_eq_some.mp hg0
  have hr' : (({ U with heap := s₂.heap, slotsUsed := s₂.slotsUsed } : State).setVm s₂.vm).frames = .java g₀ :: r := hr
  rcases hq' with ⟨hqc, L, hfe, hL⟩ | ⟨q, rfl, E, ce, L, hx, hce, hcv, hcl, hW₂, hsm, hL⟩
  · obtain ⟨⟨v, rfl⟩, hW₂, e2, q2, q3, q4, q5, q6⟩ := id hfe
    have e3 : s₂ = ({ (U.calling g mk a).setFrames s₂.frames with heap := s₂.heap, slotsUsed := s₂.slotsUsed } : State).setVm s₂.vm := by
      have : s₂ = ({ s₂ with vm := (U.calling g mk a).vm } : State).setVm s₂.vm := rfl
      rw [e2] at this
      exact this
    obtain ⟨c₂, i₂, len₂, hc₂, hd₂, hf₂⟩ := hend
    have hW' : U.WarmedH s₂.vm := hW₂
    have hcc : c₂ = c := by
      have h1 : s₂.code? g.method = U.code? g.method := by
        rw [State.code?_eq, State.code?_eq, hW'.alike.method?]
      exact Option.some.inj (hc₂.symm.trans (h1.trans h.code))
    subst hcc
    have hlen : len₂ = len := by rw [hdg] at hd₂; cases hd₂; rfl
    subst hlen
    have hs₂ : s₂ = (({ U with heap := s₂.heap, slotsUsed := s₂.slotsUsed } : State).setVm s₂.vm).setTop { g with pc := g.pc + len₂, stack := v.toList ++ g.stack } := by
      refine e3.trans ?_
      rw [hf₂, State.calling_eq h.top, State.setFrames_setFrames, State.setTop_of_frames _ hr', hr]
      rfl
    have hsame : U.sameButNew ({ U with heap := s₂.heap, slotsUsed := s₂.slotsUsed } : State) L mc ms := by
      refine ⟨?_, q2, q3, q4, q5, q6⟩
      obtain ⟨t, ht, -⟩ := State.frames_cons hr
      show ({ U with heap := s₂.heap, slotsUsed := s₂.slotsUsed } : State) = { U.setFrames U.frames with heap := s₂.heap, slotsUsed := s₂.slotsUsed }
      rw [State.setFrames_self ht]
    subst hg
    refine Or.inl ⟨v, ⟨(({ U with heap := s₂.heap, slotsUsed := s₂.slotsUsed } : State).setVm s₂.vm), Ls ++ L, c0 + mc, s0 + ms⟩,
      ⟨X.admits, X.cas, X.clock, X.frames, X.room, X.hears, X.method, X.code, (X.here.setHeapUsed s₂.heap s₂.slotsUsed).setVm hW'.alike, X.tail, State.WarmedH.trans X.warmed hW', X.limits, X.bytes, X.same.trans (hsame.setVm s.vm)⟩,
      ⟨g, mk, s₂, L, rfl, rfl, hqc, rfl, hL, rfl, rfl⟩, ?_⟩
    show Steps p.tables e below _ ((({ U with heap := s₂.heap, slotsUsed := s₂.slotsUsed } : State).setVm s₂.vm).setTop { g with pc := g.pc + len₂, stack := v.toList ++ g.stack })
    rw [← hs₂]
    exact hsteps
  · obtain ⟨e2, q2, q3, q4, q5, q6⟩ := id hsm
    have e3 : s₂ = ({ (U.calling g mk a).setFrames s₂.frames with heap := s₂.heap, slotsUsed := s₂.slotsUsed } : State).setVm s₂.vm := by
      have : s₂ = ({ s₂ with vm := (U.calling g mk a).vm } : State).setVm s₂.vm := rfl
      rw [e2] at this
      exact this
    have hf₂ : s₂.frames = .throwing q :: .java g :: U.frames.tail := hend
    have hW' : U.WarmedH s₂.vm := hW₂
    have hs₂ : s₂ = ((({ U with heap := s₂.heap, slotsUsed := s₂.slotsUsed } : State).setVm s₂.vm).setTop g).pushFrame (.throwing q) := by
      refine e3.trans ?_
      rw [hf₂, State.calling_eq h.top, State.setFrames_setFrames, State.pushFrame, State.frames_setTop _ hr', State.setTop_of_frames _ hr', State.setFrames_setFrames, hr]
      rfl
    have hsame : U.sameButNew ({ U with heap := s₂.heap, slotsUsed := s₂.slotsUsed } : State) L mc ms := by
      refine ⟨?_, q2, q3, q4, q5, q6⟩
      obtain ⟨t, ht, -⟩ := State.frames_cons hr
      show ({ U with heap := s₂.heap, slotsUsed := s₂.slotsUsed } : State) = { U.setFrames U.frames with heap := s₂.heap, slotsUsed := s₂.slotsUsed }
      rw [State.setFrames_self ht]
    subst hg
    refine Or.inr ⟨q, ⟨(({ U with heap := s₂.heap, slotsUsed := s₂.slotsUsed } : State).setVm s₂.vm), Ls ++ L, c0 + mc, s0 + ms⟩,
      ⟨X.admits, X.cas, X.clock, X.frames, X.room, X.hears, X.method, X.code, (X.here.setHeapUsed s₂.heap s₂.slotsUsed).setVm hW'.alike, X.tail, State.WarmedH.trans X.warmed hW', X.limits, X.bytes, X.same.trans (hsame.setVm s.vm)⟩,
      ⟨g, mk, s₂, L, E, ce, rfl, rfl, hx, hce, hcv, hcl, rfl, hL, rfl, rfl⟩, ?_⟩
    show Steps p.tables e below _ (((({ U with heap := s₂.heap, slotsUsed := s₂.slotsUsed } : State).setVm s₂.vm).setTop g).pushFrame (.throwing q))
    rw [← hs₂]
    exact hsteps
end
variable {p : Program} {l : Launch} {e : Env} {R : Room} {s : State} {m : MethodId} {args : Array Value} {below : List Frame} {meth : Method} {c : Code} {T : State} {H : Heap} {locs : List Loc} {cells slots : Nat}
theorem vx_callVX (X : Stand p l e R s m args below meth c T locs cells slots) (hexec : p.tables.exec = Jvm.exec) {own C : String} {index : Nat} {y : MethodName} {bytes : ByteArray} {maxL : Nat} {ret : Option FieldType} {hh : List (Nat × Nat × Nat × Nat)}
    (hown : s.vm.findClass own = some m.cls) (hlink : (Cond.methodLink own index y).before args s = true) (hinst : (Cond.instanceMethod y).before args s = true) (hsel : (Cond.selects C y y).before args s = true)
    (hcode : (Cond.codeWith y bytes maxL ret hh).before args s = true) (hy : y.cls ≠ "java/lang/invoke/MethodHandle" ∧ y.cls ≠ "java/lang/invoke/VarHandle")
    {W9 : Nat} {Pre : Pt → Array Value → Prop} {Post : Pt → Array Value → Option Value → Pt → Prop} {PostX : Pt → Array Value → Addr → Pt → Prop} (hK : vx_Back l R p e below s args y 3 W9 Pre Post PostX)
    {b : Addr} {cellB : Cell} (hcell : T.heap[b]? = some cellB) (hobj : cellB.vm.isStatics = false) (hcls : s.vm.findClass C = some cellB.cls)
    {g : JFrame} (hg : g.method = m) (hsize : g.locals.size = c.maxLocals) {argsL rest : List Value} (hlen : ∀ sig, parseMethodDescriptor y.desc = some sig → argsL.length = sig.parameters.length)
    (hstack : g.stack = argsL.reverse ++ .ref b :: rest) (hW : 2 * g.monitorRoom + (rest.map fun v => v.category).sum ≤ W9) (hdg : decode c.code g.pc = .ok (.invokevirtual index, 3))
    (hpre : ∀ vm₁, s.WarmedH vm₁ → Pre ⟨T.setVm vm₁, locs, cells, slots⟩ (Value.ref b :: argsL).toArray) :
    (∃ (v : Option Value) (vm₁ : Vm) (B : Pt), s.WarmedH vm₁ ∧ Stand p l e R s m args below meth c B.U B.locs B.cells B.slots ∧ Post ⟨T.setVm vm₁, locs, cells, slots⟩ (Value.ref b :: argsL).toArray v B ∧
      ∀ target, Steps p.tables e below (B.U.setTop { g with pc := g.pc + 3, stack := v.toList ++ rest }) target → Steps p.tables e below (T.setTop g) target) ∨
    (∃ (q : Addr) (vm₁ : Vm) (B : Pt), s.WarmedH vm₁ ∧ Stand p l e R s m args below meth c B.U B.locs B.cells B.slots ∧ PostX ⟨T.setVm vm₁, locs, cells, slots⟩ (Value.ref b :: argsL).toArray q B ∧
      Steps p.tables e below (T.setTop g) ((B.U.setTop { g with stack := rest }).pushFrame (.throwing q))) := by
  obtain ⟨mk, methM, hnamed, hmethM, hstM, habM⟩ := Cond.instanceMethod_spec hinst
  obtain ⟨m8, methM', cM, hn8, hmethM', -, -, -, -, -, -, hsigM⟩ := Cond.codeWith_spec hcode
  cases Option.some.inj (hn8.symm.trans hnamed)
  cases hmethM.symm.trans hmethM'
  obtain ⟨c2, r2, m2, q1, q2, q3, q4, kP, hkP, hkPi⟩ := Cond.selects_spec hsel
  cases hcls.symm.trans q1
  cases (State.methodFound?_of_named hnamed hy).symm.trans q2
  cases hnamed.symm.trans q3
  have hselP : selectMethod e.platform s.vm cellB.cls mk = .method mk := by rw [Launch.admits_selectMethod X.admits]; exact q4
  obtain ⟨vm₁, X₁, hstep₁⟩ := X.invokevirtual hexec hown hlink hnamed hmethM hstM hkP hkPi hy (a := b) (cell := cellB) hcell
    (fun z h => by rw [h] at hobj; cases hobj) hselP hmethM habM hkP hkPi (g := g) hg (argsL := argsL) (rest := rest) (hlen _ hsigM) hstack hdg
  rcases hK m meth c ⟨T.setVm vm₁, locs, cells, slots⟩ { g with stack := rest } (.invokevirtual index) mk (Value.ref b :: argsL).toArray X₁ hg hsize hdg hW (X₁.named hnamed) (hpre vm₁ X₁.warmed) with ⟨v, B, X', hpost, hsteps⟩ | ⟨q, B, X', hpost, hsteps⟩
  · exact Or.inl ⟨v, vm₁, B, X₁.warmed, X', hpost, fun target h => hstep₁ _ fun acts => by rw [doInvoke_state]; exact hsteps.trans h⟩
  · exact Or.inr ⟨q, vm₁, B, X₁.warmed, X', hpost, hstep₁ _ fun acts => by rw [doInvoke_state]; exact hsteps⟩
theorem vx_callSX (X : Stand p l e R s m args below meth c T locs cells slots) (hexec : p.tables.exec = Jvm.exec) {own : String} {index : Nat} {y : MethodName} {bytes : ByteArray} {maxL : Nat} {ret : Option FieldType} {hh : List (Nat × Nat × Nat × Nat)}
    (hown : s.vm.findClass own = some m.cls) (hlink : (Cond.methodLink own index y).before args s = true) (hstat : (Cond.static y).before args s = true) (hinit : (Cond.initialized y.cls).before args s = true)
    (hcode : (Cond.codeWith y bytes maxL ret hh).before args s = true) (hy : y.cls ≠ "java/lang/invoke/MethodHandle" ∧ y.cls ≠ "java/lang/invoke/VarHandle")
    {W9 : Nat} {Pre : Pt → Array Value → Prop} {Post : Pt → Array Value → Option Value → Pt → Prop} {PostX : Pt → Array Value → Addr → Pt → Prop} (hK : vx_Back l R p e below s args y 3 W9 Pre Post PostX)
    {g : JFrame} (hg : g.method = m) (hsize : g.locals.size = c.maxLocals) {argsL rest : List Value} (hlen : ∀ sig, parseMethodDescriptor y.desc = some sig → argsL.length = sig.parameters.length)
    (hstack : g.stack = argsL.reverse ++ rest) (hW : 2 * g.monitorRoom + (rest.map fun v => v.category).sum ≤ W9) (hdg : decode c.code g.pc = .ok (.invokestatic index, 3))
    (hpre : ∀ vm₁, s.WarmedH vm₁ → Pre ⟨T.setVm vm₁, locs, cells, slots⟩ argsL.toArray) :
    (∃ (v : Option Value) (vm₁ : Vm) (B : Pt), s.WarmedH vm₁ ∧ Stand p l e R s m args below meth c B.U B.locs B.cells B.slots ∧ Post ⟨T.setVm vm₁, locs, cells, slots⟩ argsL.toArray v B ∧
      ∀ target, Steps p.tables e below (B.U.setTop { g with pc := g.pc + 3, stack := v.toList ++ rest }) target → Steps p.tables e below (T.setTop g) target) ∨
    (∃ (q : Addr) (vm₁ : Vm) (B : Pt), s.WarmedH vm₁ ∧ Stand p l e R s m args below meth c B.U B.locs B.cells B.slots ∧ PostX ⟨T.setVm vm₁, locs, cells, slots⟩ argsL.toArray q B ∧
      Steps p.tables e below (T.setTop g) ((B.U.setTop { g with stack := rest }).pushFrame (.throwing q))) := by
  obtain ⟨mk, methM, cM, hnamed, hmethM, -, -, -, -, -, -, hsigM⟩ := Cond.codeWith_spec hcode
  have hstatic : methM.isStatic = true := Cond.static_spec hnamed hmethM hstat
  obtain ⟨kP, hkP, -⟩ := className_of_methodNamed hnamed
  have hinitP : kP.init = .initialized := Cond.initialized_spec (findClass_of_methodNamed hnamed) hkP hinit
  obtain ⟨vm₁, X₁, hstep₁⟩ := X.invokestatic hexec hown hlink hnamed hmethM hstatic hkP hinitP hy (g := g) hg (argsL := argsL) (rest := rest) (hlen _ hsigM) hstack hdg
  rcases hK m meth c ⟨T.setVm vm₁, locs, cells, slots⟩ { g with stack := rest } (.invokestatic index) mk argsL.toArray X₁ hg hsize hdg hW (X₁.named hnamed) (hpre vm₁ X₁.warmed) with ⟨v, B, X', hpost, hsteps⟩ | ⟨q, B, X', hpost, hsteps⟩
  · exact Or.inl ⟨v, vm₁, B, X₁.warmed, X', hpost, fun target h => hstep₁ _ fun acts => by rw [doInvoke_state]; exact hsteps.trans h⟩
  · exact Or.inr ⟨q, vm₁, B, X₁.warmed, X', hpost, hstep₁ _ fun acts => by rw [doInvoke_state]; exact hsteps⟩
theorem vx_callVW (X : Stand p l e R s m args below meth c T locs cells slots) (hexec : p.tables.exec = Jvm.exec) {own C : String} {index : Nat} {y : MethodName} {bytes : ByteArray} {maxL : Nat} {ret : Option FieldType} {hh : List (Nat × Nat × Nat × Nat)}
    (hown : s.vm.findClass own = some m.cls) (hlink : (Cond.methodLink own index y).before args s = true) (hinst : (Cond.instanceMethod y).before args s = true) (hsel : (Cond.selects C y y).before args s = true)
    (hcode : (Cond.codeWith y bytes maxL ret hh).before args s = true) (hy : y.cls ≠ "java/lang/invoke/MethodHandle" ∧ y.cls ≠ "java/lang/invoke/VarHandle")
    {W9 : Nat} {Pre : Pt → Array Value → Prop} {Post : Pt → Array Value → Option Value → Pt → Prop} (hK : Back l R p e below s args y 3 W9 Pre Post)
    {b : Addr} {cellB : Cell} (hcell : T.heap[b]? = some cellB) (hobj : cellB.vm.isStatics = false) (hcls : s.vm.findClass C = some cellB.cls)
    {g : JFrame} (hg : g.method = m) (hsize : g.locals.size = c.maxLocals) {argsL rest : List Value} (hlen : ∀ sig, parseMethodDescriptor y.desc = some sig → argsL.length = sig.parameters.length)
    (hstack : g.stack = argsL.reverse ++ .ref b :: rest) (hW : 2 * g.monitorRoom + (rest.map fun v => v.category).sum ≤ W9) (hdg : decode c.code g.pc = .ok (.invokevirtual index, 3))
    (hpre : ∀ vm₁, s.WarmedH vm₁ → Pre ⟨T.setVm vm₁, locs, cells, slots⟩ (Value.ref b :: argsL).toArray) :
    ∃ (v : Option Value) (vm₁ : Vm) (B : Pt), s.WarmedH vm₁ ∧ Stand p l e R s m args below meth c B.U B.locs B.cells B.slots ∧ Post ⟨T.setVm vm₁, locs, cells, slots⟩ (Value.ref b :: argsL).toArray v B ∧
      ∀ target, Steps p.tables e below (B.U.setTop { g with pc := g.pc + 3, stack := v.toList ++ rest }) target → Steps p.tables e below (T.setTop g) target := by
  obtain ⟨mk, methM, hnamed, hmethM, hstM, habM⟩ := Cond.instanceMethod_spec hinst
  obtain ⟨m8, methM', cM, hn8, hmethM', -, -, -, -, -, -, hsigM⟩ := Cond.codeWith_spec hcode
  cases Option.some.inj (hn8.symm.trans hnamed)
  cases hmethM.symm.trans hmethM'
  obtain ⟨c2, r2, m2, q1, q2, q3, q4, kP, hkP, hkPi⟩ := Cond.selects_spec hsel
  cases hcls.symm.trans q1
  cases (State.methodFound?_of_named hnamed hy).symm.trans q2
  cases hnamed.symm.trans q3
  have hselP : selectMethod e.platform s.vm cellB.cls mk = .method mk := by rw [Launch.admits_selectMethod X.admits]; exact q4
  obtain ⟨vm₁, X₁, hstep₁⟩ := X.invokevirtual hexec hown hlink hnamed hmethM hstM hkP hkPi hy (a := b) (cell := cellB) hcell
    (fun z h => by rw [h] at hobj; cases hobj) hselP hmethM habM hkP hkPi (g := g) hg (argsL := argsL) (rest := rest) (hlen _ hsigM) hstack hdg
  obtain ⟨v, B, X', hpost, hsteps⟩ := hK m meth c ⟨T.setVm vm₁, locs, cells, slots⟩ { g with stack := rest } (.invokevirtual index) mk (Value.ref b :: argsL).toArray X₁ hg hsize hdg hW (X₁.named hnamed) (hpre vm₁ X₁.warmed)
  exact ⟨v, vm₁, B, X₁.warmed, X', hpost, fun target h => hstep₁ _ fun acts => by rw [doInvoke_state]; exact hsteps.trans h⟩
abbrev vx_CVW (R : Room) (s : State) (args : Array Value) (own C : String) (index : Nat) (y : MethodName) (bytes : ByteArray) (maxL : Nat) (ret : Option FieldType) (hh : List (Nat × Nat × Nat × Nat)) (ws : List Cond) (rm : Room) (mc ms n : Nat) : Prop :=
  (rm.cells = mc ∧ rm.slots = ms ∧ rm.frames + 1 ≤ R.frames ∧ 8 + (maxL + 11) + rm.locals ≤ R.locals ∧ (∀ w ∈ ws, ∀ (a' : Array Value) (U : State), s.WarmedH U.vm → w.before a' U = true) ∧ Cond.codeWith y bytes maxL ret hh ∈ ws) ∧
  (Cond.codeWith y bytes maxL ret hh).before args s = true ∧ (Cond.initialized y.cls).before args s = true ∧ (y.cls ≠ "java/lang/invoke/MethodHandle" ∧ y.cls ≠ "java/lang/invoke/VarHandle") ∧
  (∀ sig, parseMethodDescriptor y.desc = some sig → n = sig.parameters.length) ∧ (Cond.methodLink own index y).before args s = true ∧ (Cond.instanceMethod y).before args s = true ∧ (Cond.selects C y y).before args s = true
theorem vx_cwVW {own C : String} {index maxL mc ms : Nat} {y : MethodName} {bytes : ByteArray} {ret : Option FieldType} {hh : List (Nat × Nat × Nat × Nat)} {Ts ws ws' : List Cond} {rm : Room} (n : Nat) (ht : ∀ w ∈ Ts, w.before args s = true) (hT : GoodIn Ts (wsV own index C y ws)) (hw : ws = Cond.codeWith y bytes maxL ret hh :: ws') (hrc : rm.cells = mc) (hrs : rm.slots = ms)
    (hd : y.cls = C ∧ y.cls ≠ "java/lang/invoke/MethodHandle" ∧ y.cls ≠ "java/lang/invoke/VarHandle" ∧ (parseMethodDescriptor y.desc).map (fun d => d.parameters.length) = some n) (hR : rm.frames + 1 ≤ R.frames ∧ 8 + (maxL + 11) + rm.locals ≤ R.locals) :
    vx_CVW R s args own C index y bytes maxL ret hh ws rm mc ms n := by
  obtain ⟨hC, hd⟩ := hd
  subst hC
  have ok : ∀ w ∈ wsV own index y.cls y ws, w.before args s = true := fun w h => ht w (hT w h).1
  have hG : GoodIn Ts ws := fun w h => hT w (by unfold wsV; exact List.mem_append_right _ h)
  have hc : Cond.codeWith y bytes maxL ret hh ∈ ws := by rw [hw]; exact List.mem_cons_self
  refine ⟨⟨hrc, hrs, hR.1, hR.2, pay_in ht hG, hc⟩, ht _ (hG _ hc).1, ok _ (by simp [wsV]), ⟨hd.1, hd.2.1⟩, fun sig h => ?_, ok _ (by simp [wsV]), ok _ (by simp [wsV]), ok _ (by simp [wsV])⟩
  have h2 := hd.2.2
  rw [h] at h2
  exact (Option.some.inj h2).symm
theorem vx_runVW {y : MethodName} {bytes cc : ByteArray} {maxL nL mc ms n index : Nat} {ret : Option FieldType} {hh : List (Nat × Nat × Nat × Nat)} {ws : List Cond} {rm : Room} {Pc : Array Value → State → Prop} {Qc : Array Value → State → Outcome → State → Prop} {free : Addr → Prop} {Ts : List Cond} {own C : String} {b : Addr} {As rest : List Value} {g : JFrame}
    (S : CallFix p m c cc nL s args Ts own) (hM : Met l y ws rm Pc Qc mc ms free) (cw : vx_CVW R s args own C index y bytes maxL ret hh ws rm mc ms n) (hp : PreV s H C b Pc As)
    (hg : g.method = m) (hn : As.length = n) (hsize : g.locals.size = nL) (hstack : g.stack = As.reverse ++ .ref b :: rest) (hW : 2 * g.monitorRoom + (rest.map fun v => v.category).sum ≤ 8) (hdg : decode cc g.pc = .ok (.invokevirtual index, 3)) (hf : cells + mc ≤ R.cells ∧ slots + ms ≤ R.slots) :
    va_Run p l e R s m args below meth c H locs cells slots mc ms g rest (Qc (Value.ref b :: As).toArray) free := by
  obtain ⟨⟨hrc, hrs, hfr, hlo, hws, hcw⟩, hcode, hini, hy, hlen, hl, hin, hse⟩ := cw
  have hK : Back l R p e below s args y 3 8 (PreOf R mc ms Pc) (PostOf Qc mc ms free) := va_backW (hh := hh) (bytes := bytes) (maxL := maxL) (ret := ret) hM hp.1 hrc hrs hfr hlo hws hcw (fun a' U hW => word_at hW (Or.inl (by first | rfl | simp [Cond.onTables, Cond.keeps, Cond.steady])) hini)
  obtain ⟨hx, hb, hml, ho, -⟩ := S
  obtain ⟨-, ⟨cellB, hcB, hoB, hclB⟩, hPc⟩ := hp
  intro T hT X
  obtain ⟨v, vm₁, ⟨U', l2, c2, s2⟩, hW₁, X', ⟨g', mk, t, L, e1, e2, hq, h1, hL, h2, h3⟩, st⟩ := vx_callVW X hx (C := C) (hh := hh) (bytes := bytes) (maxL := maxL) (ret := ret) ho hl hin hse hcode hy hK (by rw [hT]; exact hcB) hoB hclB hg (hsize.trans hml.symm) (argsL := As) (rest := rest) (fun sig h => hn.trans (hlen sig h)) hstack hW (by rw [hb]; exact hdg)
    (fun vm₁ hW₁ => ⟨hf.1, hf.2, hPc (T.setVm vm₁) hT hW₁⟩)
  dsimp only [Pt.U, Pt.locs, Pt.cells, Pt.slots] at X' e1 e2 h1 h2 h3 st
  subst h1; subst h2; subst h3
  exact ⟨v, (T.setVm vm₁).calling g' mk (Value.ref b :: As).toArray, t, U', L, hT, X', hL, e1, e2, hq, st⟩
section
variable {y : MethodName} {bytes cc : ByteArray} {maxL nL mc ms n index : Nat} {ret : Option FieldType} {ws : List Cond} {rm : Room} {Pc : Array Value → State → Prop} {Qc : Array Value → State → Outcome → State → Prop} {XC : String → State → State → Prop} {free : Addr → Prop} {Ts : List Cond} {own C : String} {b : Addr} {As rest : List Value} {g : JFrame}
theorem vx_runVX {hh : List (Nat × Nat × Nat × Nat)} (S : CallFix p m c cc nL s args Ts own) (hM : vx_Met l y ws rm Pc Qc XC mc ms free) (cw : vx_CVW R s args own C index y bytes maxL ret hh ws rm mc ms n) (hp : PreV s H C b Pc As)
    (hg : g.method = m) (hn : As.length = n) (hsize : g.locals.size = nL) (hstack : g.stack = As.reverse ++ .ref b :: rest) (hW : 2 * g.monitorRoom + (rest.map fun v => v.category).sum ≤ 8) (hdg : decode cc g.pc = .ok (.invokevirtual index, 3)) (hf : cells + mc ≤ R.cells ∧ slots + ms ≤ R.slots) :
    vx_Run p l e R s m args below meth c H locs cells slots mc ms g rest (Qc (Value.ref b :: As).toArray) XC free := by
  obtain ⟨⟨hrc, hrs, hfr, hlo, hws, hcw⟩, hcode, hini, hy, hlen, hl, hin, hse⟩ := cw
  have hK : vx_Back l R p e below s args y 3 8 (PreOf R mc ms Pc) (PostOf Qc mc ms free) (vx_Post XC mc ms free) := vx_backW (hh := hh) (bytes := bytes) (maxL := maxL) (ret := ret) hM hp.1 hrc hrs hfr hlo hws hcw (fun a' U hW => word_at hW (Or.inl (by first | rfl | simp [Cond.onTables, Cond.keeps, Cond.steady])) hini)
  obtain ⟨hx, hb, hml, ho, -⟩ := S
  obtain ⟨-, ⟨cellB, hcB, hoB, hclB⟩, hPc⟩ := hp
  intro T hT X
  rcases vx_callVX X hx (C := C) (hh := hh) (bytes := bytes) (maxL := maxL) (ret := ret) ho hl hin hse hcode hy hK (by rw [hT]; exact hcB) hoB hclB hg (hsize.trans hml.symm) (argsL := As) (rest := rest) (fun sig h => hn.trans (hlen sig h)) hstack hW (by rw [hb]; exact hdg)
    (fun vm₁ hW₁ => ⟨hf.1, hf.2, hPc (T.setVm vm₁) hT hW₁⟩) with ⟨v, vm₁, ⟨U', l2, c2, s2⟩, hW₁, X', ⟨g', mk, t, L, e1, e2, hq, h1, hL, h2, h3⟩, st⟩ | ⟨q, vm₁, ⟨U', l2, c2, s2⟩, hW₁, X', ⟨g', mk, t, L, E, ce, e1, e2, hq, hce, hcv, hcl, h1, hL, h2, h3⟩, st⟩
  · dsimp only [Pt.U, Pt.locs, Pt.cells, Pt.slots] at X' e1 e2 h1 h2 h3 st
    subst h1; subst h2; subst h3
    exact Or.inl ⟨v, (T.setVm vm₁).calling g' mk (Value.ref b :: As).toArray, t, U', L, hT, X', hL, e1, e2, hq, st⟩
  · dsimp only [Pt.U, Pt.locs, Pt.cells, Pt.slots] at X' e1 e2 h1 h2 h3 st hcl
    subst h1; subst h2; subst h3
    exact Or.inr ⟨q, (T.setVm vm₁).calling g' mk (Value.ref b :: As).toArray, t, U', L, E, ce, hT, X', hL, e1, e2, hq, hce, hcv, vx_cls hW₁ hcl, st⟩
theorem vx_runSX {hh : List (Nat × Nat × Nat × Nat)} (S : CallFix p m c cc nL s args Ts own) (hM : vx_Met l y ws rm Pc Qc XC mc ms free) (cw : vx_CSW R s args own index y bytes maxL ret hh ws rm mc ms n) (hp : PreS s H Pc As)
    (hg : g.method = m) (hn : As.length = n) (hsize : g.locals.size = nL) (hstack : g.stack = As.reverse ++ rest) (hW : 2 * g.monitorRoom + (rest.map fun v => v.category).sum ≤ 8) (hdg : decode cc g.pc = .ok (.invokestatic index, 3)) (hf : cells + mc ≤ R.cells ∧ slots + ms ≤ R.slots) :
    vx_Run p l e R s m args below meth c H locs cells slots mc ms g rest (Qc As.toArray) XC free := by
  obtain ⟨⟨hrc, hrs, hfr, hlo, hws, hcw⟩, hcode, hini, hy, hlen, hl, hstt⟩ := cw
  have hK : vx_Back l R p e below s args y 3 8 (PreOf R mc ms Pc) (PostOf Qc mc ms free) (vx_Post XC mc ms free) := vx_backW (hh := hh) (bytes := bytes) (maxL := maxL) (ret := ret) hM hp.1 hrc hrs hfr hlo hws hcw (fun a' U hW => word_at hW (Or.inl (by first | rfl | simp [Cond.onTables, Cond.keeps, Cond.steady])) hini)
  obtain ⟨hx, hb, hml, ho, -⟩ := S
  intro T hT X
  rcases vx_callSX X hx (hh := hh) (bytes := bytes) (maxL := maxL) (ret := ret) ho hl hstt hini hcode hy hK hg (hsize.trans hml.symm) (argsL := As) (rest := rest) (fun sig h => hn.trans (hlen sig h)) hstack hW (by rw [hb]; exact hdg)
    (fun vm₁ hW₁ => ⟨hf.1, hf.2, hp.2 (T.setVm vm₁) hT hW₁⟩) with ⟨v, vm₁, ⟨U', l2, c2, s2⟩, hW₁, X', ⟨g', mk, t, L, e1, e2, hq, h1, hL, h2, h3⟩, st⟩ | ⟨q, vm₁, ⟨U', l2, c2, s2⟩, hW₁, X', ⟨g', mk, t, L, E, ce, e1, e2, hq, hce, hcv, hcl, h1, hL, h2, h3⟩, st⟩
  · dsimp only [Pt.U, Pt.locs, Pt.cells, Pt.slots] at X' e1 e2 h1 h2 h3 st
    subst h1; subst h2; subst h3
    exact Or.inl ⟨v, (T.setVm vm₁).calling g' mk As.toArray, t, U', L, hT, X', hL, e1, e2, hq, st⟩
  · dsimp only [Pt.U, Pt.locs, Pt.cells, Pt.slots] at X' e1 e2 h1 h2 h3 st hcl
    subst h1; subst h2; subst h3
    exact Or.inr ⟨q, (T.setVm vm₁).calling g' mk As.toArray, t, U', L, E, ce, hT, X', hL, e1, e2, hq, hce, hcv, vx_cls hW₁ hcl, st⟩
end
end VXH
theorem vx_ofWH {l : Launch} {y : MethodName} {ws ws' : List Cond} {rm : Room} {Pc : Array Value → State → Prop} {Qc : Array Value → State → Outcome → State → Prop} {XC : String → State → State → Prop} {mc ms : Nat} {free : Addr → Prop} {cc : ByteArray} {maxL : Nat} {ret : Option FieldType} {hh : List (Nat × Nat × Nat × Nat)}
    (hy : plainName y.cls = true) (hw : ws = Cond.codeWith y cc maxL ret hh :: ws')
    (body : ∀ p e s m args below meth c s₁, BodyLoose p l y (headSpec ws rm) cc maxL ret e s m args below meth c s₁ → c.maxLocals = maxL → Pc args s →
      W p l e (headSpec ws rm).room s m args below meth c s.heap [] 0 0 (vx_MQ below Qc XC args s mc ms free) (entryFrame m args maxL)) : vx_Met l y ws rm Pc Qc XC mc ms free := by
  refine MetFree.of_bodyS (code := cc) (maxLocals := maxL) (ret := ret) hy ?_ ?_
  · intro args s m h hn
    obtain ⟨m9, meth, c, hn9, h1, h2, h3, h4, -, h5, h6, -⟩ := Cond.codeWith_spec (atoms_spec (ws := ws) h _ (by rw [hw]; exact List.mem_cons_self))
    cases hn.symm.trans hn9
    exact ⟨meth, c, h1, h2, h3, h4, h5, h6⟩
  · intro p e s m args below meth c s₁ B hml hP _
    have hh0 : s₁.heap = s.heap := by rw [B.state]; rfl
    obtain ⟨t, a1, o, b1, b2, b3⟩ := body p e s m args below meth c s₁ B hml hP s₁ hh0 (Stand.of_body B)
    exact ⟨t, o, a1, b1, b2, b3⟩
/-! ===== END ===== -/
end
section
/-! ===== BEGIN printed: names, fields, word lists, decode rows ===== -/
def RX0 : String := "PledgedLoans$Books"
def TX0 : u_T := fun k => match k with
  | 0 => ("PledgedLoans$Books", "shares", "[I", true)
  | 1 => ("PledgedLoans$Books", "shareDays", "[I", true)
  | 2 => ("PledgedLoans$Books", "pledges", "[I", true)
  | 3 => ("PledgedLoans$Books", "rest", "[I", true)
  | 4 => ("PledgedLoans$Books", "part", "[I", true)
  | 5 => ("PledgedLoans$Books", "paid", "[I", true)
  | 6 => ("PledgedLoans$Books", "misses", "[I", true)
  | 7 => ("PledgedLoans$Books", "settings", "[I", true)
  | 8 => ("PledgedLoans$Books", "till", "I", false)
  | 9 => ("PledgedLoans$Books", "surplus", "I", false)
  | 10 => ("PledgedLoans$Books", "loansGiven", "I", false)
  | 11 => ("PledgedLoans$Books", "loansFallenDue", "I", false)
  | 12 => ("PledgedLoans$Books", "weeksEnded", "I", false)
  | 13 => ("PledgedLoans$Books", "day", "I", false)
  | 14 => ("PledgedLoans$Books", "refused", "I", false)
  | _ => ("PledgedLoans$Books", "dividendsPaid", "I", false)
def tyX0 : Nat → FieldType := fun k => match k with
  | 0 => .array .int
  | 1 => .array .int
  | 2 => .array .int
  | 3 => .array .int
  | 4 => .array .int
  | 5 => .array .int
  | 6 => .array .int
  | 7 => .array .int
  | 8 => .int
  | 9 => .int
  | 10 => .int
  | 11 => .int
  | 12 => .int
  | 13 => .int
  | 14 => .int
  | _ => .int
abbrev wsX00 : List Cond := u_ws RX0 TX0 16
theorem nmX0 : ∀ a, a < 16 → ∀ b, b < 16 → a ≠ b → (TX0 a).2.1 ≠ (TX0 b).2.1 := by decide +kernel
theorem tyX0_ok : ∀ k, k < 16 → parseFieldDescriptor (TX0 k).2.2.1 = some (tyX0 k) := by decide +kernel
abbrev cX0_init : ByteArray := prog_2_method_1_code
def yX0_init : MethodName := ⟨RX0, "<init>", "()V"⟩
abbrev cX0_place : ByteArray := prog_2_method_2_code
def yX0_place : MethodName := ⟨RX0, "place", "(II)I"⟩
abbrev cX0_copyFrom : ByteArray := prog_2_method_3_code
def yX0_copyFrom : MethodName := ⟨RX0, "copyFrom", "(LPledgedLoans$Books;)V"⟩
abbrev cX0_copyRow : ByteArray := prog_2_method_4_code
def yX0_copyRow : MethodName := ⟨RX0, "copyRow", "([I[I)V"⟩
abbrev cX0_allShares : ByteArray := prog_2_method_5_code
def yX0_allShares : MethodName := ⟨RX0, "allShares", "()I"⟩
abbrev cX0_allRests : ByteArray := prog_2_method_6_code
def yX0_allRests : MethodName := ⟨RX0, "allRests", "()I"⟩
abbrev cX0_allShareDays : ByteArray := prog_2_method_7_code
def yX0_allShareDays : MethodName := ⟨RX0, "allShareDays", "()J"⟩
abbrev cX0_loans : ByteArray := prog_2_method_8_code
def yX0_loans : MethodName := ⟨RX0, "loans", "()I"⟩
abbrev cX0_hasLoan : ByteArray := prog_2_method_9_code
def yX0_hasLoan : MethodName := ⟨RX0, "hasLoan", "(I)Z"⟩
abbrev cX0_pledgedBy : ByteArray := prog_2_method_10_code
def yX0_pledgedBy : MethodName := ⟨RX0, "pledgedBy", "(I)I"⟩
abbrev cX0_pledgedFor : ByteArray := prog_2_method_11_code
def yX0_pledgedFor : MethodName := ⟨RX0, "pledgedFor", "(I)I"⟩
abbrev cX0_ownLeft : ByteArray := prog_2_method_12_code
def yX0_ownLeft : MethodName := ⟨RX0, "ownLeft", "(I)I"⟩
abbrev cX0_cover : ByteArray := prog_2_method_13_code
def yX0_cover : MethodName := ⟨RX0, "cover", "(I)I"⟩
abbrev cX0_freeShares : ByteArray := prog_2_method_14_code
def yX0_freeShares : MethodName := ⟨RX0, "freeShares", "(I)I"⟩
abbrev cX0_property : ByteArray := prog_2_method_15_code
def yX0_property : MethodName := ⟨RX0, "property", "(II)I"⟩
abbrev cX0_takeIn : ByteArray := prog_2_method_16_code
def yX0_takeIn : MethodName := ⟨RX0, "takeIn", "(II)I"⟩
abbrev cX0_giveOut : ByteArray := prog_2_method_17_code
def yX0_giveOut : MethodName := ⟨RX0, "giveOut", "(II)I"⟩
abbrev cX0_addPledge : ByteArray := prog_2_method_18_code
def yX0_addPledge : MethodName := ⟨RX0, "addPledge", "(III)I"⟩
abbrev cX0_dropPledge : ByteArray := prog_2_method_19_code
def yX0_dropPledge : MethodName := ⟨RX0, "dropPledge", "(III)I"⟩
abbrev cX0_feeOf : ByteArray := prog_2_method_20_code
def yX0_feeOf : MethodName := ⟨RX0, "feeOf", "(I)I"⟩
abbrev cX0_threefold : ByteArray := prog_2_method_21_code
def yX0_threefold : MethodName := ⟨RX0, "threefold", "(I)I"⟩
abbrev cX0_whyNoLoan : ByteArray := prog_2_method_22_code
def yX0_whyNoLoan : MethodName := ⟨RX0, "whyNoLoan", "(II)I"⟩
abbrev cX0_whyAbove : ByteArray := prog_2_method_23_code
def yX0_whyAbove : MethodName := ⟨RX0, "whyAbove", "(III)I"⟩
abbrev cX0_lend : ByteArray := prog_2_method_24_code
def yX0_lend : MethodName := ⟨RX0, "lend", "(III)I"⟩
abbrev cX0_takeBack : ByteArray := prog_2_method_25_code
def yX0_takeBack : MethodName := ⟨RX0, "takeBack", "(II)I"⟩
abbrev cX0_weeksByWeeks : ByteArray := prog_2_method_26_code
def yX0_weeksByWeeks : MethodName := ⟨RX0, "weeksByWeeks", "(I)I"⟩
abbrev cX0_weeksAtOnce : ByteArray := prog_2_method_27_code
def yX0_weeksAtOnce : MethodName := ⟨RX0, "weeksAtOnce", "(I)I"⟩
abbrev cX0_mostAtStake : ByteArray := prog_2_method_28_code
def yX0_mostAtStake : MethodName := ⟨RX0, "mostAtStake", "()I"⟩
abbrev cX0_lentPart : ByteArray := prog_2_method_29_code
def yX0_lentPart : MethodName := ⟨RX0, "lentPart", "()D"⟩
abbrev cX0_canEndWeek : ByteArray := prog_2_method_30_code
def yX0_canEndWeek : MethodName := ⟨RX0, "canEndWeek", "()Z"⟩
abbrev cX0_endWeek : ByteArray := prog_2_method_31_code
def yX0_endWeek : MethodName := ⟨RX0, "endWeek", "()I"⟩
abbrev cX0_endWeekOf : ByteArray := prog_2_method_32_code
def yX0_endWeekOf : MethodName := ⟨RX0, "endWeekOf", "(I)Z"⟩
abbrev cX0_takeDue : ByteArray := prog_2_method_33_code
def yX0_takeDue : MethodName := ⟨RX0, "takeDue", "(I)V"⟩
abbrev cX0_canAddDays : ByteArray := prog_2_method_34_code
def yX0_canAddDays : MethodName := ⟨RX0, "canAddDays", "(I)Z"⟩
abbrev cX0_addDays : ByteArray := prog_2_method_35_code
def yX0_addDays : MethodName := ⟨RX0, "addDays", "(I)I"⟩
abbrev cX0_dividendOf : ByteArray := prog_2_method_36_code
def yX0_dividendOf : MethodName := ⟨RX0, "dividendOf", "(IJ)I"⟩
abbrev cX0_shareOut : ByteArray := prog_2_method_37_code
def yX0_shareOut : MethodName := ⟨RX0, "shareOut", "()I"⟩
def RX1 : String := "PledgedLoans$OrderReader"
def TX1 : u_T := fun k => match k with
  | 0 => ("PledgedLoans$OrderReader", "stage", "I", false)
  | 1 => ("PledgedLoans$OrderReader", "kind", "C", false)
  | 2 => ("PledgedLoans$OrderReader", "member", "I", false)
  | 3 => ("PledgedLoans$OrderReader", "borrower", "I", false)
  | 4 => ("PledgedLoans$OrderReader", "amount", "I", false)
  | _ => ("PledgedLoans$OrderReader", "weeks", "I", false)
def tyX1 : Nat → FieldType := fun k => match k with
  | 0 => .int
  | 1 => .char
  | 2 => .int
  | 3 => .int
  | 4 => .int
  | _ => .int
abbrev wsX10 : List Cond := u_ws RX1 TX1 6
theorem nmX1 : ∀ a, a < 6 → ∀ b, b < 6 → a ≠ b → (TX1 a).2.1 ≠ (TX1 b).2.1 := by decide +kernel
theorem tyX1_ok : ∀ k, k < 6 → parseFieldDescriptor (TX1 k).2.2.1 = some (tyX1 k) := by decide +kernel
abbrev cX1_init : ByteArray := prog_3_method_1_code
def yX1_init : MethodName := ⟨RX1, "<init>", "()V"⟩
abbrev cX1_restart : ByteArray := prog_3_method_2_code
def yX1_restart : MethodName := ⟨RX1, "restart", "()V"⟩
abbrev cX1_isWhole : ByteArray := prog_3_method_3_code
def yX1_isWhole : MethodName := ⟨RX1, "isWhole", "()Z"⟩
abbrev cX1_take : ByteArray := prog_3_method_4_code
def yX1_take : MethodName := ⟨RX1, "take", "(C)Z"⟩
abbrev cX1_takeEnd : ByteArray := prog_3_method_5_code
def yX1_takeEnd : MethodName := ⟨RX1, "takeEnd", "()Z"⟩
abbrev cX1_takeKind : ByteArray := prog_3_method_6_code
def yX1_takeKind : MethodName := ⟨RX1, "takeKind", "(C)Z"⟩
abbrev cX1_isMember : ByteArray := prog_3_method_7_code
def yX1_isMember : MethodName := ⟨RX1, "isMember", "(C)Z"⟩
abbrev cX1_takeMember : ByteArray := prog_3_method_8_code
def yX1_takeMember : MethodName := ⟨RX1, "takeMember", "(C)Z"⟩
abbrev cX1_takeBorrower : ByteArray := prog_3_method_9_code
def yX1_takeBorrower : MethodName := ⟨RX1, "takeBorrower", "(C)Z"⟩
abbrev cX1_takeMark : ByteArray := prog_3_method_10_code
def yX1_takeMark : MethodName := ⟨RX1, "takeMark", "(CCI)Z"⟩
abbrev cX1_takeAmount : ByteArray := prog_3_method_11_code
def yX1_takeAmount : MethodName := ⟨RX1, "takeAmount", "(C)Z"⟩
abbrev cX1_takeWeeks : ByteArray := prog_3_method_12_code
def yX1_takeWeeks : MethodName := ⟨RX1, "takeWeeks", "(C)Z"⟩
abbrev cX1_longer : ByteArray := prog_3_method_13_code
def yX1_longer : MethodName := ⟨RX1, "longer", "(ICI)I"⟩
def RX2 : String := "PledgedLoans"
def TX2 : u_T := fun k => match k with
  | 0 => ("PledgedLoans", "books", "LPledgedLoans$Books;", true)
  | 1 => ("PledgedLoans", "saved", "[LPledgedLoans$Books;", true)
  | 2 => ("PledgedLoans", "savedStates", "I", false)
  | 3 => ("PledgedLoans", "slots", "[LPledgedLoans$Books;", true)
  | 4 => ("PledgedLoans", "slotFilled", "[Z", true)
  | 5 => ("PledgedLoans", "buffer", "[C", true)
  | 6 => ("PledgedLoans", "bufferLength", "I", false)
  | 7 => ("PledgedLoans", "reader", "LPledgedLoans$OrderReader;", true)
  | _ => ("PledgedLoans", "free", "[I", true)
def tyX2 : Nat → FieldType := fun k => match k with
  | 0 => .object "PledgedLoans$Books"
  | 1 => .array (.object "PledgedLoans$Books")
  | 2 => .int
  | 3 => .array (.object "PledgedLoans$Books")
  | 4 => .array .boolean
  | 5 => .array .char
  | 6 => .int
  | 7 => .object "PledgedLoans$OrderReader"
  | _ => .array .int
abbrev wsX20 : List Cond := u_ws RX2 TX2 9
theorem nmX2 : ∀ a, a < 9 → ∀ b, b < 9 → a ≠ b → (TX2 a).2.1 ≠ (TX2 b).2.1 := by decide +kernel
theorem tyX2_ok : ∀ k, k < 9 → parseFieldDescriptor (TX2 k).2.2.1 = some (tyX2 k) := by decide +kernel
abbrev cX2_init : ByteArray := prog_1_method_1_code
def yX2_init : MethodName := ⟨RX2, "<init>", "()V"⟩
abbrev cX2_payIn : ByteArray := prog_1_method_2_code
def yX2_payIn : MethodName := ⟨RX2, "payIn", "(II)I"⟩
abbrev cX2_payOut : ByteArray := prog_1_method_3_code
def yX2_payOut : MethodName := ⟨RX2, "payOut", "(II)I"⟩
abbrev cX2_pledge : ByteArray := prog_1_method_4_code
def yX2_pledge : MethodName := ⟨RX2, "pledge", "(III)I"⟩
abbrev cX2_unpledge : ByteArray := prog_1_method_5_code
def yX2_unpledge : MethodName := ⟨RX2, "unpledge", "(III)I"⟩
abbrev cX2_borrow : ByteArray := prog_1_method_6_code
def yX2_borrow : MethodName := ⟨RX2, "borrow", "(III)I"⟩
abbrev cX2_repay : ByteArray := prog_1_method_7_code
def yX2_repay : MethodName := ⟨RX2, "repay", "(II)I"⟩
abbrev cX2_week : ByteArray := prog_1_method_8_code
def yX2_week : MethodName := ⟨RX2, "week", "()I"⟩
abbrev cX2_pass : ByteArray := prog_1_method_9_code
def yX2_pass : MethodName := ⟨RX2, "pass", "(I)I"⟩
abbrev cX2_dividend : ByteArray := prog_1_method_10_code
def yX2_dividend : MethodName := ⟨RX2, "dividend", "()I"⟩
abbrev cX2_set : ByteArray := prog_1_method_11_code
def yX2_set : MethodName := ⟨RX2, "set", "(II)I"⟩
abbrev cX2_append : ByteArray := prog_1_method_12_code
def yX2_append : MethodName := ⟨RX2, "append", "(I)I"⟩
abbrev cX2_clearBuffer : ByteArray := prog_1_method_13_code
def yX2_clearBuffer : MethodName := ⟨RX2, "clearBuffer", "()I"⟩
abbrev cX2_firstError : ByteArray := prog_1_method_14_code
def yX2_firstError : MethodName := ⟨RX2, "firstError", "()I"⟩
abbrev cX2_run : ByteArray := prog_1_method_15_code
def yX2_run : MethodName := ⟨RX2, "run", "()I"⟩
abbrev cX2_keep : ByteArray := prog_1_method_16_code
def yX2_keep : MethodName := ⟨RX2, "keep", "(I)I"⟩
abbrev cX2_goBack : ByteArray := prog_1_method_17_code
def yX2_goBack : MethodName := ⟨RX2, "goBack", "(I)I"⟩
abbrev cX2_undo : ByteArray := prog_1_method_18_code
def yX2_undo : MethodName := ⟨RX2, "undo", "()I"⟩
abbrev cX2_memberOf : ByteArray := prog_1_method_19_code
def yX2_memberOf : MethodName := ⟨RX2, "memberOf", "(II)I"⟩
abbrev cX2_pledged : ByteArray := prog_1_method_20_code
def yX2_pledged : MethodName := ⟨RX2, "pledged", "(II)I"⟩
abbrev cX2_count : ByteArray := prog_1_method_21_code
def yX2_count : MethodName := ⟨RX2, "count", "(I)I"⟩
abbrev cX2_setting : ByteArray := prog_1_method_22_code
def yX2_setting : MethodName := ⟨RX2, "setting", "(I)I"⟩
abbrev cX2_whyNot : ByteArray := prog_1_method_23_code
def yX2_whyNot : MethodName := ⟨RX2, "whyNot", "(II)I"⟩
abbrev cX2_greatest : ByteArray := prog_1_method_24_code
def yX2_greatest : MethodName := ⟨RX2, "greatest", "(II)I"⟩
abbrev cX2_guarantors : ByteArray := prog_1_method_25_code
def yX2_guarantors : MethodName := ⟨RX2, "guarantors", "(III)I"⟩
abbrev cX2_weeksLeft : ByteArray := prog_1_method_26_code
def yX2_weeksLeft : MethodName := ⟨RX2, "weeksLeft", "(II)I"⟩
abbrev cX2_ifDivided : ByteArray := prog_1_method_27_code
def yX2_ifDivided : MethodName := ⟨RX2, "ifDivided", "(I)I"⟩
abbrev cX2_riskiest : ByteArray := prog_1_method_28_code
def yX2_riskiest : MethodName := ⟨RX2, "riskiest", "()I"⟩
abbrev cX2_lentShare : ByteArray := prog_1_method_29_code
def yX2_lentShare : MethodName := ⟨RX2, "lentShare", "()D"⟩
abbrev cX2_digest : ByteArray := prog_1_method_30_code
def yX2_digest : MethodName := ⟨RX2, "digest", "()J"⟩
abbrev cX2_checkMember : ByteArray := prog_1_method_31_code
def yX2_checkMember : MethodName := ⟨RX2, "checkMember", "(I)V"⟩
abbrev cX2_checkPair : ByteArray := prog_1_method_32_code
def yX2_checkPair : MethodName := ⟨RX2, "checkPair", "(II)V"⟩
abbrev cX2_checkSetting : ByteArray := prog_1_method_33_code
def yX2_checkSetting : MethodName := ⟨RX2, "checkSetting", "(I)V"⟩
abbrev cX2_checkAmount : ByteArray := prog_1_method_34_code
def yX2_checkAmount : MethodName := ⟨RX2, "checkAmount", "(I)V"⟩
abbrev cX2_checkRange : ByteArray := prog_1_method_35_code
def yX2_checkRange : MethodName := ⟨RX2, "checkRange", "(III)V"⟩
abbrev cX2_saveState : ByteArray := prog_1_method_36_code
def yX2_saveState : MethodName := ⟨RX2, "saveState", "()V"⟩
abbrev cX2_dropOldest : ByteArray := prog_1_method_37_code
def yX2_dropOldest : MethodName := ⟨RX2, "dropOldest", "()V"⟩
abbrev cX2_readToError : ByteArray := prog_1_method_38_code
def yX2_readToError : MethodName := ⟨RX2, "readToError", "()I"⟩
abbrev cX2_doOrders : ByteArray := prog_1_method_39_code
def yX2_doOrders : MethodName := ⟨RX2, "doOrders", "()I"⟩
abbrev cX2_doOrder : ByteArray := prog_1_method_40_code
def yX2_doOrder : MethodName := ⟨RX2, "doOrder", "()Z"⟩
abbrev cX2_number : ByteArray := prog_1_method_41_code
def yX2_number : MethodName := ⟨RX2, "number", "(I)I"⟩
abbrev cX2_greatestByHalving : ByteArray := prog_1_method_42_code
def yX2_greatestByHalving : MethodName := ⟨RX2, "greatestByHalving", "(I)I"⟩
abbrev cX2_greatestByAll : ByteArray := prog_1_method_43_code
def yX2_greatestByAll : MethodName := ⟨RX2, "greatestByAll", "(I)I"⟩
abbrev cX2_fewestByGreatest : ByteArray := prog_1_method_44_code
def yX2_fewestByGreatest : MethodName := ⟨RX2, "fewestByGreatest", "(II)I"⟩
abbrev cX2_fewestBySets : ByteArray := prog_1_method_45_code
def yX2_fewestBySets : MethodName := ⟨RX2, "fewestBySets", "(II)I"⟩
abbrev cX2_fillFree : ByteArray := prog_1_method_46_code
def yX2_fillFree : MethodName := ⟨RX2, "fillFree", "()V"⟩
abbrev cX2_freest : ByteArray := prog_1_method_47_code
def yX2_freest : MethodName := ⟨RX2, "freest", "(I)I"⟩
abbrev cX2_freeOf : ByteArray := prog_1_method_48_code
def yX2_freeOf : MethodName := ⟨RX2, "freeOf", "(I)I"⟩
abbrev cX2_digestOfMember : ByteArray := prog_1_method_49_code
def yX2_digestOfMember : MethodName := ⟨RX2, "digestOfMember", "(JI)J"⟩
abbrev cX2_bits : ByteArray := prog_1_method_50_code
def yX2_bits : MethodName := ⟨RX2, "bits", "(D)J"⟩
def RX3 : String := "PledgedLoansModel"
def TX3 : u_T := fun k => match k with
  | 0 => ("PledgedLoansModel", "thrown", "I", false)
  | 1 => ("PledgedLoansModel", "s", "[I", true)
  | 2 => ("PledgedLoansModel", "saved", "I", false)
  | 3 => ("PledgedLoansModel", "isKept", "[Z", true)
  | 4 => ("PledgedLoansModel", "text", "[I", true)
  | 5 => ("PledgedLoansModel", "length", "I", false)
  | 6 => ("PledgedLoansModel", "at", "I", false)
  | 7 => ("PledgedLoansModel", "order", "I", false)
  | 8 => ("PledgedLoansModel", "first", "I", false)
  | 9 => ("PledgedLoansModel", "second", "I", false)
  | 10 => ("PledgedLoansModel", "amount", "I", false)
  | 11 => ("PledgedLoansModel", "weeks", "I", false)
  | 12 => ("PledgedLoansModel", "frees", "[I", true)
  | _ => ("PledgedLoansModel", "hash", "J", false)
def tyX3 : Nat → FieldType := fun k => match k with
  | 0 => .int
  | 1 => .array .int
  | 2 => .int
  | 3 => .array .boolean
  | 4 => .array .int
  | 5 => .int
  | 6 => .int
  | 7 => .int
  | 8 => .int
  | 9 => .int
  | 10 => .int
  | 11 => .int
  | 12 => .array .int
  | _ => .long
abbrev wsX30 : List Cond := u_ws RX3 TX3 14
theorem nmX3 : ∀ a, a < 14 → ∀ b, b < 14 → a ≠ b → (TX3 a).2.1 ≠ (TX3 b).2.1 := by decide +kernel
theorem tyX3_ok : ∀ k, k < 14 → parseFieldDescriptor (TX3 k).2.2.1 = some (tyX3 k) := by decide +kernel
abbrev cX3_init : ByteArray := prog_5_method_1_code
def yX3_init : MethodName := ⟨RX3, "<init>", "()V"⟩
abbrev cX3_thrown : ByteArray := prog_5_method_2_code
def yX3_thrown : MethodName := ⟨RX3, "thrown", "()I"⟩
abbrev cX3_in : ByteArray := prog_5_method_3_code
def yX3_in : MethodName := ⟨RX3, "in", "(III)Z"⟩
abbrev cX3_holds : ByteArray := prog_5_method_4_code
def yX3_holds : MethodName := ⟨RX3, "holds", "(I)Z"⟩
abbrev cX3_isMember : ByteArray := prog_5_method_5_code
def yX3_isMember : MethodName := ⟨RX3, "isMember", "(I)Z"⟩
abbrev cX3_isAmount : ByteArray := prog_5_method_6_code
def yX3_isAmount : MethodName := ⟨RX3, "isAmount", "(I)Z"⟩
abbrev cX3_of : ByteArray := prog_5_method_7_code
def yX3_of : MethodName := ⟨RX3, "of", "(II)I"⟩
abbrev cX3_adds : ByteArray := prog_5_method_8_code
def yX3_adds : MethodName := ⟨RX3, "adds", "(III)V"⟩
abbrev cX3_pledgeOf : ByteArray := prog_5_method_9_code
def yX3_pledgeOf : MethodName := ⟨RX3, "pledgeOf", "(II)I"⟩
abbrev cX3_pledgedBy : ByteArray := prog_5_method_10_code
def yX3_pledgedBy : MethodName := ⟨RX3, "pledgedBy", "(I)I"⟩
abbrev cX3_pledgedFor : ByteArray := prog_5_method_11_code
def yX3_pledgedFor : MethodName := ⟨RX3, "pledgedFor", "(I)I"⟩
abbrev cX3_own : ByteArray := prog_5_method_12_code
def yX3_own : MethodName := ⟨RX3, "own", "(I)I"⟩
abbrev cX3_cover : ByteArray := prog_5_method_13_code
def yX3_cover : MethodName := ⟨RX3, "cover", "(I)I"⟩
abbrev cX3_free : ByteArray := prog_5_method_14_code
def yX3_free : MethodName := ⟨RX3, "free", "(I)I"⟩
abbrev cX3_fee : ByteArray := prog_5_method_15_code
def yX3_fee : MethodName := ⟨RX3, "fee", "(II)I"⟩
abbrev cX3_reason : ByteArray := prog_5_method_16_code
def yX3_reason : MethodName := ⟨RX3, "reason", "(II)I"⟩
abbrev cX3_refuses : ByteArray := prog_5_method_17_code
def yX3_refuses : MethodName := ⟨RX3, "refuses", "(I)I"⟩
abbrev cX3_paysIn : ByteArray := prog_5_method_18_code
def yX3_paysIn : MethodName := ⟨RX3, "paysIn", "(II)I"⟩
abbrev cX3_paysOut : ByteArray := prog_5_method_19_code
def yX3_paysOut : MethodName := ⟨RX3, "paysOut", "(II)I"⟩
abbrev cX3_pledges : ByteArray := prog_5_method_20_code
def yX3_pledges : MethodName := ⟨RX3, "pledges", "(III)I"⟩
abbrev cX3_takesBack : ByteArray := prog_5_method_21_code
def yX3_takesBack : MethodName := ⟨RX3, "takesBack", "(III)I"⟩
abbrev cX3_lends : ByteArray := prog_5_method_22_code
def yX3_lends : MethodName := ⟨RX3, "lends", "(III)I"⟩
abbrev cX3_repays : ByteArray := prog_5_method_23_code
def yX3_repays : MethodName := ⟨RX3, "repays", "(II)I"⟩
abbrev cX3_takes : ByteArray := prog_5_method_24_code
def yX3_takes : MethodName := ⟨RX3, "takes", "(III)I"⟩
abbrev cX3_fallsDue : ByteArray := prog_5_method_25_code
def yX3_fallsDue : MethodName := ⟨RX3, "fallsDue", "(I)V"⟩
abbrev cX3_endsWeek : ByteArray := prog_5_method_26_code
def yX3_endsWeek : MethodName := ⟨RX3, "endsWeek", "()I"⟩
abbrev cX3_allDays : ByteArray := prog_5_method_27_code
def yX3_allDays : MethodName := ⟨RX3, "allDays", "()J"⟩
abbrev cX3_share : ByteArray := prog_5_method_28_code
def yX3_share : MethodName := ⟨RX3, "share", "(I)I"⟩
abbrev cX3_copies : ByteArray := prog_5_method_29_code
def yX3_copies : MethodName := ⟨RX3, "copies", "(II)V"⟩
abbrev cX3_save : ByteArray := prog_5_method_30_code
def yX3_save : MethodName := ⟨RX3, "save", "()V"⟩
abbrev cX3_isDeed : ByteArray := prog_5_method_31_code
def yX3_isDeed : MethodName := ⟨RX3, "isDeed", "(II)Z"⟩
abbrev cX3_payIn : ByteArray := prog_5_method_32_code
def yX3_payIn : MethodName := ⟨RX3, "payIn", "(II)I"⟩
abbrev cX3_payOut : ByteArray := prog_5_method_33_code
def yX3_payOut : MethodName := ⟨RX3, "payOut", "(II)I"⟩
abbrev cX3_isPair : ByteArray := prog_5_method_34_code
def yX3_isPair : MethodName := ⟨RX3, "isPair", "(III)Z"⟩
abbrev cX3_pledge : ByteArray := prog_5_method_35_code
def yX3_pledge : MethodName := ⟨RX3, "pledge", "(III)I"⟩
abbrev cX3_unpledge : ByteArray := prog_5_method_36_code
def yX3_unpledge : MethodName := ⟨RX3, "unpledge", "(III)I"⟩
abbrev cX3_borrow : ByteArray := prog_5_method_37_code
def yX3_borrow : MethodName := ⟨RX3, "borrow", "(III)I"⟩
abbrev cX3_repay : ByteArray := prog_5_method_38_code
def yX3_repay : MethodName := ⟨RX3, "repay", "(II)I"⟩
abbrev cX3_week : ByteArray := prog_5_method_39_code
def yX3_week : MethodName := ⟨RX3, "week", "()I"⟩
abbrev cX3_pass : ByteArray := prog_5_method_40_code
def yX3_pass : MethodName := ⟨RX3, "pass", "(I)I"⟩
abbrev cX3_dividend : ByteArray := prog_5_method_41_code
def yX3_dividend : MethodName := ⟨RX3, "dividend", "()I"⟩
abbrev cX3_set : ByteArray := prog_5_method_42_code
def yX3_set : MethodName := ⟨RX3, "set", "(II)I"⟩
abbrev cX3_append : ByteArray := prog_5_method_43_code
def yX3_append : MethodName := ⟨RX3, "append", "(I)I"⟩
abbrev cX3_clearBuffer : ByteArray := prog_5_method_44_code
def yX3_clearBuffer : MethodName := ⟨RX3, "clearBuffer", "()I"⟩
abbrev cX3_sign : ByteArray := prog_5_method_45_code
def yX3_sign : MethodName := ⟨RX3, "sign", "()I"⟩
abbrev cX3_takesSign : ByteArray := prog_5_method_46_code
def yX3_takesSign : MethodName := ⟨RX3, "takesSign", "(I)Z"⟩
abbrev cX3_readsMember : ByteArray := prog_5_method_47_code
def yX3_readsMember : MethodName := ⟨RX3, "readsMember", "(I)I"⟩
abbrev cX3_readsNumber : ByteArray := prog_5_method_48_code
def yX3_readsNumber : MethodName := ⟨RX3, "readsNumber", "(I)I"⟩
abbrev cX3_readsOrder : ByteArray := prog_5_method_49_code
def yX3_readsOrder : MethodName := ⟨RX3, "readsOrder", "()Z"⟩
abbrev cX3_areOrders : ByteArray := prog_5_method_50_code
def yX3_areOrders : MethodName := ⟨RX3, "areOrders", "()Z"⟩
abbrev cX3_firstError : ByteArray := prog_5_method_51_code
def yX3_firstError : MethodName := ⟨RX3, "firstError", "()I"⟩
abbrev cX3_does : ByteArray := prog_5_method_52_code
def yX3_does : MethodName := ⟨RX3, "does", "()V"⟩
abbrev cX3_run : ByteArray := prog_5_method_53_code
def yX3_run : MethodName := ⟨RX3, "run", "()I"⟩
abbrev cX3_loans : ByteArray := prog_5_method_54_code
def yX3_loans : MethodName := ⟨RX3, "loans", "()I"⟩
abbrev cX3_keep : ByteArray := prog_5_method_55_code
def yX3_keep : MethodName := ⟨RX3, "keep", "(I)I"⟩
abbrev cX3_goBack : ByteArray := prog_5_method_56_code
def yX3_goBack : MethodName := ⟨RX3, "goBack", "(I)I"⟩
abbrev cX3_undo : ByteArray := prog_5_method_57_code
def yX3_undo : MethodName := ⟨RX3, "undo", "()I"⟩
abbrev cX3_property : ByteArray := prog_5_method_58_code
def yX3_property : MethodName := ⟨RX3, "property", "(II)I"⟩
abbrev cX3_memberOf : ByteArray := prog_5_method_59_code
def yX3_memberOf : MethodName := ⟨RX3, "memberOf", "(II)I"⟩
abbrev cX3_pledged : ByteArray := prog_5_method_60_code
def yX3_pledged : MethodName := ⟨RX3, "pledged", "(II)I"⟩
abbrev cX3_total : ByteArray := prog_5_method_61_code
def yX3_total : MethodName := ⟨RX3, "total", "(I)I"⟩
abbrev cX3_counted : ByteArray := prog_5_method_62_code
def yX3_counted : MethodName := ⟨RX3, "counted", "(I)I"⟩
abbrev cX3_count : ByteArray := prog_5_method_63_code
def yX3_count : MethodName := ⟨RX3, "count", "(I)I"⟩
abbrev cX3_setting : ByteArray := prog_5_method_64_code
def yX3_setting : MethodName := ⟨RX3, "setting", "(I)I"⟩
abbrev cX3_whyNot : ByteArray := prog_5_method_65_code
def yX3_whyNot : MethodName := ⟨RX3, "whyNot", "(II)I"⟩
abbrev cX3_most : ByteArray := prog_5_method_66_code
def yX3_most : MethodName := ⟨RX3, "most", "(I)I"⟩
abbrev cX3_greatest : ByteArray := prog_5_method_67_code
def yX3_greatest : MethodName := ⟨RX3, "greatest", "(II)I"⟩
abbrev cX3_fewest : ByteArray := prog_5_method_68_code
def yX3_fewest : MethodName := ⟨RX3, "fewest", "(II)I"⟩
abbrev cX3_guarantors : ByteArray := prog_5_method_69_code
def yX3_guarantors : MethodName := ⟨RX3, "guarantors", "(III)I"⟩
abbrev cX3_lasts : ByteArray := prog_5_method_70_code
def yX3_lasts : MethodName := ⟨RX3, "lasts", "(I)I"⟩
abbrev cX3_weeksLeft : ByteArray := prog_5_method_71_code
def yX3_weeksLeft : MethodName := ⟨RX3, "weeksLeft", "(II)I"⟩
abbrev cX3_ifDivided : ByteArray := prog_5_method_72_code
def yX3_ifDivided : MethodName := ⟨RX3, "ifDivided", "(I)I"⟩
abbrev cX3_risky : ByteArray := prog_5_method_73_code
def yX3_risky : MethodName := ⟨RX3, "risky", "()I"⟩
abbrev cX3_riskiest : ByteArray := prog_5_method_74_code
def yX3_riskiest : MethodName := ⟨RX3, "riskiest", "()I"⟩
abbrev cX3_lent : ByteArray := prog_5_method_75_code
def yX3_lent : MethodName := ⟨RX3, "lent", "()D"⟩
abbrev cX3_lentShare : ByteArray := prog_5_method_76_code
def yX3_lentShare : MethodName := ⟨RX3, "lentShare", "()D"⟩
abbrev cX3_mix : ByteArray := prog_5_method_77_code
def yX3_mix : MethodName := ⟨RX3, "mix", "(J)V"⟩
abbrev cX3_bits : ByteArray := prog_5_method_78_code
def yX3_bits : MethodName := ⟨RX3, "bits", "(D)J"⟩
abbrev cX3_mixMember : ByteArray := prog_5_method_79_code
def yX3_mixMember : MethodName := ⟨RX3, "mixMember", "(I)V"⟩
abbrev cX3_digest : ByteArray := prog_5_method_80_code
def yX3_digest : MethodName := ⟨RX3, "digest", "()J"⟩
def RJ6 : String := "java/lang/Integer"
def TJ6 : u_T := fun k => match k with
  | _ => ("", "", "", false)
def tyJ6 : Nat → FieldType := fun k => match k with
  | _ => .int
abbrev wsJ60 : List Cond := u_ws RJ6 TJ6 0
theorem nmJ6 : ∀ a, a < 0 → ∀ b, b < 0 → a ≠ b → (TJ6 a).2.1 ≠ (TJ6 b).2.1 := by decide +kernel
theorem tyJ6_ok : ∀ k, k < 0 → parseFieldDescriptor (TJ6 k).2.2.1 = some (tyJ6 k) := by decide +kernel
abbrev cJ6_bitCount_0f7a4 : ByteArray := prog_10_method_49_code
def yJ6_bitCount_0f7a4 : MethodName := ⟨RJ6, "bitCount", "(I)I"⟩
def RJ9 : String := "java/lang/Math"
def TJ9 : u_T := fun k => match k with
  | _ => ("", "", "", false)
def tyJ9 : Nat → FieldType := fun k => match k with
  | _ => .int
abbrev wsJ90 : List Cond := u_ws RJ9 TJ9 0
theorem nmJ9 : ∀ a, a < 0 → ∀ b, b < 0 → a ≠ b → (TJ9 a).2.1 ≠ (TJ9 b).2.1 := by decide +kernel
theorem tyJ9_ok : ∀ k, k < 0 → parseFieldDescriptor (TJ9 k).2.2.1 = some (tyJ9 k) := by decide +kernel
abbrev cJ9_max_7cf53 : ByteArray := prog_11_method_65_code
def yJ9_max_7cf53 : MethodName := ⟨RJ9, "max", "(II)I"⟩
abbrev cJ9_min_7cf53 : ByteArray := prog_11_method_69_code
def yJ9_min_7cf53 : MethodName := ⟨RJ9, "min", "(II)I"⟩
def RJ0 : String := "java/lang/String"
def TJ0 : u_T := fun k => match k with
  | _ => ("", "", "", false)
def tyJ0 : Nat → FieldType := fun k => match k with
  | _ => .int
abbrev wsJ00 : List Cond := u_ws RJ0 TJ0 0
theorem nmJ0 : ∀ a, a < 0 → ∀ b, b < 0 → a ≠ b → (TJ0 a).2.1 ≠ (TJ0 b).2.1 := by decide +kernel
theorem tyJ0_ok : ∀ k, k < 0 → parseFieldDescriptor (TJ0 k).2.2.1 = some (tyJ0 k) := by decide +kernel
def RJ10 : String := "java/lang/System"
def TJ10 : u_T := fun k => match k with
  | _ => ("", "", "", false)
def tyJ10 : Nat → FieldType := fun k => match k with
  | _ => .int
abbrev wsJ100 : List Cond := u_ws RJ10 TJ10 0
theorem nmJ10 : ∀ a, a < 0 → ∀ b, b < 0 → a ≠ b → (TJ10 a).2.1 ≠ (TJ10 b).2.1 := by decide +kernel
theorem tyJ10_ok : ∀ k, k < 0 → parseFieldDescriptor (TJ10 k).2.2.1 = some (tyJ10 k) := by decide +kernel
def RL : String := "PledgedLoansLaw"
abbrev cL_payIn : ByteArray := method_3_code
def yL_payIn : MethodName := ⟨RL, "payIn", "(LPledgedLoans;II[J)I"⟩
abbrev cL_payOut : ByteArray := method_4_code
def yL_payOut : MethodName := ⟨RL, "payOut", "(LPledgedLoans;II[J)I"⟩
abbrev cL_pledge : ByteArray := method_5_code
def yL_pledge : MethodName := ⟨RL, "pledge", "(LPledgedLoans;III[J)I"⟩
abbrev cL_unpledge : ByteArray := method_6_code
def yL_unpledge : MethodName := ⟨RL, "unpledge", "(LPledgedLoans;III[J)I"⟩
abbrev cL_borrow : ByteArray := method_7_code
def yL_borrow : MethodName := ⟨RL, "borrow", "(LPledgedLoans;III[J)I"⟩
abbrev cL_repay : ByteArray := method_8_code
def yL_repay : MethodName := ⟨RL, "repay", "(LPledgedLoans;II[J)I"⟩
abbrev cL_week : ByteArray := method_9_code
def yL_week : MethodName := ⟨RL, "week", "(LPledgedLoans;[J)I"⟩
abbrev cL_pass : ByteArray := method_10_code
def yL_pass : MethodName := ⟨RL, "pass", "(LPledgedLoans;I[J)I"⟩
abbrev cL_set : ByteArray := method_11_code
def yL_set : MethodName := ⟨RL, "set", "(LPledgedLoans;II[J)I"⟩
abbrev cL_append : ByteArray := method_12_code
def yL_append : MethodName := ⟨RL, "append", "(LPledgedLoans;I[J)I"⟩
abbrev cL_run : ByteArray := method_13_code
def yL_run : MethodName := ⟨RL, "run", "(LPledgedLoans;[J)I"⟩
abbrev cL_keep : ByteArray := method_14_code
def yL_keep : MethodName := ⟨RL, "keep", "(LPledgedLoans;I[J)I"⟩
abbrev cL_goBack : ByteArray := method_15_code
def yL_goBack : MethodName := ⟨RL, "goBack", "(LPledgedLoans;I[J)I"⟩
abbrev cL_undo : ByteArray := method_16_code
def yL_undo : MethodName := ⟨RL, "undo", "(LPledgedLoans;[J)I"⟩
abbrev cL_memberOf : ByteArray := method_17_code
def yL_memberOf : MethodName := ⟨RL, "memberOf", "(LPledgedLoans;II[J)I"⟩
abbrev cL_pledged : ByteArray := method_18_code
def yL_pledged : MethodName := ⟨RL, "pledged", "(LPledgedLoans;II[J)I"⟩
abbrev cL_count : ByteArray := method_19_code
def yL_count : MethodName := ⟨RL, "count", "(LPledgedLoans;I[J)I"⟩
abbrev cL_setting : ByteArray := method_20_code
def yL_setting : MethodName := ⟨RL, "setting", "(LPledgedLoans;I[J)I"⟩
abbrev cL_whyNot : ByteArray := method_21_code
def yL_whyNot : MethodName := ⟨RL, "whyNot", "(LPledgedLoans;II[J)I"⟩
abbrev cL_greatest : ByteArray := method_22_code
def yL_greatest : MethodName := ⟨RL, "greatest", "(LPledgedLoans;II[J)I"⟩
abbrev cL_guarantors : ByteArray := method_23_code
def yL_guarantors : MethodName := ⟨RL, "guarantors", "(LPledgedLoans;III[J)I"⟩
abbrev cL_weeksLeft : ByteArray := method_24_code
def yL_weeksLeft : MethodName := ⟨RL, "weeksLeft", "(LPledgedLoans;II[J)I"⟩
abbrev cL_ifDivided : ByteArray := method_25_code
def yL_ifDivided : MethodName := ⟨RL, "ifDivided", "(LPledgedLoans;I[J)I"⟩
abbrev cL_law : ByteArray := code
def yL_law : MethodName := ⟨RL, "law", "([I)Z"⟩
def wsX0_init : List Cond := .code yX0_init cX0_init 1 none :: ([.methodLink RX0 3 objectInit, .instanceMethod objectInit, .code objectInit ⟨#[0xb1]⟩ 1 none, .arrayClass .int, .fieldLink RX0 9 "PledgedLoans$Books" "shares" "[I", .fieldLink RX0 15 "PledgedLoans$Books" "shareDays" "[I", .fieldLink RX0 18 "PledgedLoans$Books" "pledges" "[I", .fieldLink RX0 21 "PledgedLoans$Books" "rest" "[I", .fieldLink RX0 24 "PledgedLoans$Books" "part" "[I", .fieldLink RX0 27 "PledgedLoans$Books" "paid" "[I", .fieldLink RX0 30 "PledgedLoans$Books" "misses" "[I", .fieldLink RX0 33 "PledgedLoans$Books" "settings" "[I"] ++ wsX00)
def wsX0_place : List Cond := .code yX0_place cX0_place 2 (some .int) :: ([])
def wsX0_copyRow : List Cond := .code yX0_copyRow cX0_copyRow 2 none :: ([.methodLink RX0 65 Lib.Math.min.name, .static Lib.Math.min.name, .initialized "java/lang/Math", .code Lib.Math.min.name Lib.Math.min.code 2 (some .int), .methodLink RX0 71 arraycopyName, .native arraycopyName, .static arraycopyName, .initialized "java/lang/System"])
def wsX0_copyFrom_r1 : List Cond := [Cond.fieldLink RX0 9 "PledgedLoans$Books" "shares" "[I", Cond.fieldLink RX0 15 "PledgedLoans$Books" "shareDays" "[I", Cond.fieldLink RX0 18 "PledgedLoans$Books" "pledges" "[I", Cond.fieldLink RX0 21 "PledgedLoans$Books" "rest" "[I", Cond.fieldLink RX0 24 "PledgedLoans$Books" "part" "[I", Cond.fieldLink RX0 27 "PledgedLoans$Books" "paid" "[I", Cond.fieldLink RX0 30 "PledgedLoans$Books" "misses" "[I", Cond.fieldLink RX0 33 "PledgedLoans$Books" "settings" "[I", Cond.fieldLink RX0 40 "PledgedLoans$Books" "till" "I", Cond.fieldLink RX0 44 "PledgedLoans$Books" "surplus" "I", Cond.fieldLink RX0 47 "PledgedLoans$Books" "loansGiven" "I", Cond.fieldLink RX0 50 "PledgedLoans$Books" "loansFallenDue" "I", Cond.fieldLink RX0 53 "PledgedLoans$Books" "weeksEnded" "I", Cond.fieldLink RX0 56 "PledgedLoans$Books" "day" "I", Cond.fieldLink RX0 59 "PledgedLoans$Books" "refused" "I", Cond.fieldLink RX0 62 "PledgedLoans$Books" "dividendsPaid" "I", Cond.methodLink RX0 36 yX0_copyRow, Cond.static yX0_copyRow, Cond.initialized RX0, Cond.code yX0_copyRow cX0_copyRow 2 none, Cond.methodLink RX0 65 Lib.Math.min.name, Cond.static Lib.Math.min.name, Cond.initialized "java/lang/Math", Cond.code Lib.Math.min.name Lib.Math.min.code 2 (some .int)]
def wsX0_copyFrom_r2 : List Cond := [Cond.methodLink RX0 71 arraycopyName, Cond.native arraycopyName, Cond.static arraycopyName, Cond.initialized "java/lang/System"]
def wsX0_copyFrom : List Cond := .code yX0_copyFrom cX0_copyFrom 2 none :: ((wsX0_copyFrom_r1 ++ wsX0_copyFrom_r2) ++ wsX00)
def wsX0_allShares : List Cond := .code yX0_allShares cX0_allShares 6 (some .int) :: ([.fieldLink RX0 9 "PledgedLoans$Books" "shares" "[I"] ++ wsX00)
def wsX0_allRests : List Cond := .code yX0_allRests cX0_allRests 6 (some .int) :: ([.fieldLink RX0 21 "PledgedLoans$Books" "rest" "[I"] ++ wsX00)
def wsX0_allShareDays : List Cond := .code yX0_allShareDays cX0_allShareDays 7 (some .long) :: ([.fieldLink RX0 15 "PledgedLoans$Books" "shareDays" "[I"] ++ wsX00)
def wsX0_hasLoan : List Cond := .code yX0_hasLoan cX0_hasLoan 2 (some .boolean) :: ([.fieldLink RX0 21 "PledgedLoans$Books" "rest" "[I"] ++ wsX00)
def wsX0_loans : List Cond := .code yX0_loans cX0_loans 3 (some .int) :: ([.methodLink RX0 77 yX0_hasLoan, .instanceMethod yX0_hasLoan, .selects RX0 yX0_hasLoan yX0_hasLoan, .initialized RX0, .code yX0_hasLoan cX0_hasLoan 2 (some .boolean), .fieldLink RX0 21 "PledgedLoans$Books" "rest" "[I"] ++ wsX00)
def wsX0_pledgedBy : List Cond := .code yX0_pledgedBy cX0_pledgedBy 5 (some .int) :: ([.fieldLink RX0 18 "PledgedLoans$Books" "pledges" "[I"] ++ wsX00)
def wsX0_pledgedFor : List Cond := .code yX0_pledgedFor cX0_pledgedFor 4 (some .int) :: ([.fieldLink RX0 18 "PledgedLoans$Books" "pledges" "[I"] ++ wsX00)
def wsX0_ownLeft : List Cond := .code yX0_ownLeft cX0_ownLeft 2 (some .int) :: ([.fieldLink RX0 9 "PledgedLoans$Books" "shares" "[I", .methodLink RX0 81 yX0_pledgedBy, .instanceMethod yX0_pledgedBy, .selects RX0 yX0_pledgedBy yX0_pledgedBy, .initialized RX0, .code yX0_pledgedBy cX0_pledgedBy 5 (some .int), .fieldLink RX0 18 "PledgedLoans$Books" "pledges" "[I"] ++ wsX00)
def wsX0_cover : List Cond := .code yX0_cover cX0_cover 2 (some .int) :: ([.methodLink RX0 85 yX0_ownLeft, .instanceMethod yX0_ownLeft, .selects RX0 yX0_ownLeft yX0_ownLeft, .initialized RX0, .code yX0_ownLeft cX0_ownLeft 2 (some .int), .fieldLink RX0 9 "PledgedLoans$Books" "shares" "[I", .methodLink RX0 81 yX0_pledgedBy, .instanceMethod yX0_pledgedBy, .selects RX0 yX0_pledgedBy yX0_pledgedBy, .code yX0_pledgedBy cX0_pledgedBy 5 (some .int), .fieldLink RX0 18 "PledgedLoans$Books" "pledges" "[I", .methodLink RX0 88 yX0_pledgedFor, .instanceMethod yX0_pledgedFor, .selects RX0 yX0_pledgedFor yX0_pledgedFor, .code yX0_pledgedFor cX0_pledgedFor 4 (some .int)] ++ wsX00)
def wsX0_freeShares : List Cond := .code yX0_freeShares cX0_freeShares 2 (some .int) :: ([.fieldLink RX0 21 "PledgedLoans$Books" "rest" "[I", .methodLink RX0 91 Lib.Math.max.name, .static Lib.Math.max.name, .initialized "java/lang/Math", .code Lib.Math.max.name Lib.Math.max.code 2 (some .int), .methodLink RX0 85 yX0_ownLeft, .instanceMethod yX0_ownLeft, .selects RX0 yX0_ownLeft yX0_ownLeft, .initialized RX0, .code yX0_ownLeft cX0_ownLeft 2 (some .int), .fieldLink RX0 9 "PledgedLoans$Books" "shares" "[I", .methodLink RX0 81 yX0_pledgedBy, .instanceMethod yX0_pledgedBy, .selects RX0 yX0_pledgedBy yX0_pledgedBy, .code yX0_pledgedBy cX0_pledgedBy 5 (some .int), .fieldLink RX0 18 "PledgedLoans$Books" "pledges" "[I", .methodLink RX0 88 yX0_pledgedFor, .instanceMethod yX0_pledgedFor, .selects RX0 yX0_pledgedFor yX0_pledgedFor, .code yX0_pledgedFor cX0_pledgedFor 4 (some .int)] ++ wsX00)
def wsX0_property_r1 : List Cond := [Cond.fieldLink RX0 9 "PledgedLoans$Books" "shares" "[I", Cond.fieldLink RX0 15 "PledgedLoans$Books" "shareDays" "[I", Cond.fieldLink RX0 21 "PledgedLoans$Books" "rest" "[I", Cond.fieldLink RX0 24 "PledgedLoans$Books" "part" "[I", Cond.fieldLink RX0 27 "PledgedLoans$Books" "paid" "[I", Cond.fieldLink RX0 30 "PledgedLoans$Books" "misses" "[I", Cond.methodLink RX0 81 yX0_pledgedBy, Cond.instanceMethod yX0_pledgedBy, Cond.selects RX0 yX0_pledgedBy yX0_pledgedBy, Cond.initialized RX0, Cond.code yX0_pledgedBy cX0_pledgedBy 5 (some .int), Cond.fieldLink RX0 18 "PledgedLoans$Books" "pledges" "[I", Cond.methodLink RX0 88 yX0_pledgedFor, Cond.instanceMethod yX0_pledgedFor, Cond.selects RX0 yX0_pledgedFor yX0_pledgedFor, Cond.code yX0_pledgedFor cX0_pledgedFor 4 (some .int), Cond.methodLink RX0 94 yX0_cover, Cond.instanceMethod yX0_cover, Cond.selects RX0 yX0_cover yX0_cover, Cond.code yX0_cover cX0_cover 2 (some .int), Cond.methodLink RX0 85 yX0_ownLeft, Cond.instanceMethod yX0_ownLeft, Cond.selects RX0 yX0_ownLeft yX0_ownLeft, Cond.code yX0_ownLeft cX0_ownLeft 2 (some .int)]
def wsX0_property_r2 : List Cond := [Cond.methodLink RX0 97 yX0_freeShares, Cond.instanceMethod yX0_freeShares, Cond.selects RX0 yX0_freeShares yX0_freeShares, Cond.code yX0_freeShares cX0_freeShares 2 (some .int), Cond.methodLink RX0 91 Lib.Math.max.name, Cond.static Lib.Math.max.name, Cond.initialized "java/lang/Math", Cond.code Lib.Math.max.name Lib.Math.max.code 2 (some .int), Cond.methodLink RX0 77 yX0_hasLoan, Cond.instanceMethod yX0_hasLoan, Cond.selects RX0 yX0_hasLoan yX0_hasLoan, Cond.code yX0_hasLoan cX0_hasLoan 2 (some .boolean)]
def wsX0_property : List Cond := .code yX0_property cX0_property 3 (some .int) :: ((wsX0_property_r1 ++ wsX0_property_r2) ++ wsX00)
def wsX0_takeIn : List Cond := .code yX0_takeIn cX0_takeIn 4 (some .int) :: ([.fieldLink RX0 9 "PledgedLoans$Books" "shares" "[I", .constant RX0 100 (90000), .fieldLink RX0 59 "PledgedLoans$Books" "refused" "I", .fieldLink RX0 40 "PledgedLoans$Books" "till" "I"] ++ wsX00)
def wsX0_giveOut_r1 : List Cond := [Cond.fieldLink RX0 59 "PledgedLoans$Books" "refused" "I", Cond.fieldLink RX0 40 "PledgedLoans$Books" "till" "I", Cond.fieldLink RX0 9 "PledgedLoans$Books" "shares" "[I", Cond.methodLink RX0 97 yX0_freeShares, Cond.instanceMethod yX0_freeShares, Cond.selects RX0 yX0_freeShares yX0_freeShares, Cond.initialized RX0, Cond.code yX0_freeShares cX0_freeShares 2 (some .int), Cond.fieldLink RX0 21 "PledgedLoans$Books" "rest" "[I", Cond.methodLink RX0 91 Lib.Math.max.name, Cond.static Lib.Math.max.name, Cond.initialized "java/lang/Math", Cond.code Lib.Math.max.name Lib.Math.max.code 2 (some .int), Cond.methodLink RX0 85 yX0_ownLeft, Cond.instanceMethod yX0_ownLeft, Cond.selects RX0 yX0_ownLeft yX0_ownLeft, Cond.code yX0_ownLeft cX0_ownLeft 2 (some .int), Cond.methodLink RX0 81 yX0_pledgedBy, Cond.instanceMethod yX0_pledgedBy, Cond.selects RX0 yX0_pledgedBy yX0_pledgedBy, Cond.code yX0_pledgedBy cX0_pledgedBy 5 (some .int), Cond.fieldLink RX0 18 "PledgedLoans$Books" "pledges" "[I", Cond.methodLink RX0 88 yX0_pledgedFor, Cond.instanceMethod yX0_pledgedFor]
def wsX0_giveOut_r2 : List Cond := [Cond.selects RX0 yX0_pledgedFor yX0_pledgedFor, Cond.code yX0_pledgedFor cX0_pledgedFor 4 (some .int)]
def wsX0_giveOut : List Cond := .code yX0_giveOut cX0_giveOut 3 (some .int) :: ((wsX0_giveOut_r1 ++ wsX0_giveOut_r2) ++ wsX00)
def wsX0_addPledge_r1 : List Cond := [Cond.fieldLink RX0 59 "PledgedLoans$Books" "refused" "I", Cond.fieldLink RX0 18 "PledgedLoans$Books" "pledges" "[I", Cond.methodLink RX0 97 yX0_freeShares, Cond.instanceMethod yX0_freeShares, Cond.selects RX0 yX0_freeShares yX0_freeShares, Cond.initialized RX0, Cond.code yX0_freeShares cX0_freeShares 2 (some .int), Cond.fieldLink RX0 21 "PledgedLoans$Books" "rest" "[I", Cond.methodLink RX0 91 Lib.Math.max.name, Cond.static Lib.Math.max.name, Cond.initialized "java/lang/Math", Cond.code Lib.Math.max.name Lib.Math.max.code 2 (some .int), Cond.methodLink RX0 85 yX0_ownLeft, Cond.instanceMethod yX0_ownLeft, Cond.selects RX0 yX0_ownLeft yX0_ownLeft, Cond.code yX0_ownLeft cX0_ownLeft 2 (some .int), Cond.fieldLink RX0 9 "PledgedLoans$Books" "shares" "[I", Cond.methodLink RX0 81 yX0_pledgedBy, Cond.instanceMethod yX0_pledgedBy, Cond.selects RX0 yX0_pledgedBy yX0_pledgedBy, Cond.code yX0_pledgedBy cX0_pledgedBy 5 (some .int), Cond.methodLink RX0 88 yX0_pledgedFor, Cond.instanceMethod yX0_pledgedFor, Cond.selects RX0 yX0_pledgedFor yX0_pledgedFor]
def wsX0_addPledge_r2 : List Cond := [Cond.code yX0_pledgedFor cX0_pledgedFor 4 (some .int), Cond.methodLink RX0 101 yX0_place, Cond.static yX0_place, Cond.code yX0_place cX0_place 2 (some .int)]
def wsX0_addPledge : List Cond := .code yX0_addPledge cX0_addPledge 5 (some .int) :: ((wsX0_addPledge_r1 ++ wsX0_addPledge_r2) ++ wsX00)
def wsX0_dropPledge : List Cond := .code yX0_dropPledge cX0_dropPledge 5 (some .int) :: ([.fieldLink RX0 18 "PledgedLoans$Books" "pledges" "[I", .fieldLink RX0 59 "PledgedLoans$Books" "refused" "I", .fieldLink RX0 21 "PledgedLoans$Books" "rest" "[I", .methodLink RX0 101 yX0_place, .static yX0_place, .initialized RX0, .code yX0_place cX0_place 2 (some .int), .methodLink RX0 94 yX0_cover, .instanceMethod yX0_cover, .selects RX0 yX0_cover yX0_cover, .code yX0_cover cX0_cover 2 (some .int), .methodLink RX0 85 yX0_ownLeft, .instanceMethod yX0_ownLeft, .selects RX0 yX0_ownLeft yX0_ownLeft, .code yX0_ownLeft cX0_ownLeft 2 (some .int), .fieldLink RX0 9 "PledgedLoans$Books" "shares" "[I", .methodLink RX0 81 yX0_pledgedBy, .instanceMethod yX0_pledgedBy, .selects RX0 yX0_pledgedBy yX0_pledgedBy, .code yX0_pledgedBy cX0_pledgedBy 5 (some .int), .methodLink RX0 88 yX0_pledgedFor, .instanceMethod yX0_pledgedFor, .selects RX0 yX0_pledgedFor yX0_pledgedFor, .code yX0_pledgedFor cX0_pledgedFor 4 (some .int)] ++ wsX00)
def wsX0_feeOf : List Cond := .code yX0_feeOf cX0_feeOf 2 (some .int) :: ([.fieldLink RX0 33 "PledgedLoans$Books" "settings" "[I"] ++ wsX00)
def wsX0_threefold : List Cond := .code yX0_threefold cX0_threefold 2 (some .int) :: ([.fieldLink RX0 9 "PledgedLoans$Books" "shares" "[I"] ++ wsX00)
def wsX0_whyAbove : List Cond := .code yX0_whyAbove cX0_whyAbove 4 (some .int) :: ([.fieldLink RX0 40 "PledgedLoans$Books" "till" "I", .methodLink RX0 111 yX0_feeOf, .instanceMethod yX0_feeOf, .selects RX0 yX0_feeOf yX0_feeOf, .initialized RX0, .code yX0_feeOf cX0_feeOf 2 (some .int), .fieldLink RX0 33 "PledgedLoans$Books" "settings" "[I"] ++ wsX00)
def wsX0_whyNoLoan_r1 : List Cond := [Cond.methodLink RX0 77 yX0_hasLoan, Cond.instanceMethod yX0_hasLoan, Cond.selects RX0 yX0_hasLoan yX0_hasLoan, Cond.initialized RX0, Cond.code yX0_hasLoan cX0_hasLoan 2 (some .boolean), Cond.fieldLink RX0 21 "PledgedLoans$Books" "rest" "[I", Cond.methodLink RX0 104 yX0_threefold, Cond.instanceMethod yX0_threefold, Cond.selects RX0 yX0_threefold yX0_threefold, Cond.code yX0_threefold cX0_threefold 2 (some .int), Cond.fieldLink RX0 9 "PledgedLoans$Books" "shares" "[I", Cond.methodLink RX0 94 yX0_cover, Cond.instanceMethod yX0_cover, Cond.selects RX0 yX0_cover yX0_cover, Cond.code yX0_cover cX0_cover 2 (some .int), Cond.methodLink RX0 85 yX0_ownLeft, Cond.instanceMethod yX0_ownLeft, Cond.selects RX0 yX0_ownLeft yX0_ownLeft, Cond.code yX0_ownLeft cX0_ownLeft 2 (some .int), Cond.methodLink RX0 81 yX0_pledgedBy, Cond.instanceMethod yX0_pledgedBy, Cond.selects RX0 yX0_pledgedBy yX0_pledgedBy, Cond.code yX0_pledgedBy cX0_pledgedBy 5 (some .int), Cond.fieldLink RX0 18 "PledgedLoans$Books" "pledges" "[I"]
def wsX0_whyNoLoan_r2 : List Cond := [Cond.methodLink RX0 88 yX0_pledgedFor, Cond.instanceMethod yX0_pledgedFor, Cond.selects RX0 yX0_pledgedFor yX0_pledgedFor, Cond.code yX0_pledgedFor cX0_pledgedFor 4 (some .int), Cond.methodLink RX0 107 yX0_whyAbove, Cond.instanceMethod yX0_whyAbove, Cond.selects RX0 yX0_whyAbove yX0_whyAbove, Cond.code yX0_whyAbove cX0_whyAbove 4 (some .int), Cond.fieldLink RX0 40 "PledgedLoans$Books" "till" "I", Cond.methodLink RX0 111 yX0_feeOf, Cond.instanceMethod yX0_feeOf, Cond.selects RX0 yX0_feeOf yX0_feeOf, Cond.code yX0_feeOf cX0_feeOf 2 (some .int), Cond.fieldLink RX0 33 "PledgedLoans$Books" "settings" "[I"]
def wsX0_whyNoLoan : List Cond := .code yX0_whyNoLoan cX0_whyNoLoan 3 (some .int) :: ((wsX0_whyNoLoan_r1 ++ wsX0_whyNoLoan_r2) ++ wsX00)
def wsX0_lend_r1 : List Cond := [Cond.fieldLink RX0 59 "PledgedLoans$Books" "refused" "I", Cond.fieldLink RX0 40 "PledgedLoans$Books" "till" "I", Cond.fieldLink RX0 44 "PledgedLoans$Books" "surplus" "I", Cond.fieldLink RX0 21 "PledgedLoans$Books" "rest" "[I", Cond.fieldLink RX0 24 "PledgedLoans$Books" "part" "[I", Cond.fieldLink RX0 27 "PledgedLoans$Books" "paid" "[I", Cond.fieldLink RX0 30 "PledgedLoans$Books" "misses" "[I", Cond.fieldLink RX0 47 "PledgedLoans$Books" "loansGiven" "I", Cond.methodLink RX0 114 yX0_whyNoLoan, Cond.instanceMethod yX0_whyNoLoan, Cond.selects RX0 yX0_whyNoLoan yX0_whyNoLoan, Cond.initialized RX0, Cond.code yX0_whyNoLoan cX0_whyNoLoan 3 (some .int), Cond.methodLink RX0 77 yX0_hasLoan, Cond.instanceMethod yX0_hasLoan, Cond.selects RX0 yX0_hasLoan yX0_hasLoan, Cond.code yX0_hasLoan cX0_hasLoan 2 (some .boolean), Cond.methodLink RX0 104 yX0_threefold, Cond.instanceMethod yX0_threefold, Cond.selects RX0 yX0_threefold yX0_threefold, Cond.code yX0_threefold cX0_threefold 2 (some .int), Cond.fieldLink RX0 9 "PledgedLoans$Books" "shares" "[I", Cond.methodLink RX0 94 yX0_cover, Cond.instanceMethod yX0_cover]
def wsX0_lend_r2 : List Cond := [Cond.selects RX0 yX0_cover yX0_cover, Cond.code yX0_cover cX0_cover 2 (some .int), Cond.methodLink RX0 85 yX0_ownLeft, Cond.instanceMethod yX0_ownLeft, Cond.selects RX0 yX0_ownLeft yX0_ownLeft, Cond.code yX0_ownLeft cX0_ownLeft 2 (some .int), Cond.methodLink RX0 81 yX0_pledgedBy, Cond.instanceMethod yX0_pledgedBy, Cond.selects RX0 yX0_pledgedBy yX0_pledgedBy, Cond.code yX0_pledgedBy cX0_pledgedBy 5 (some .int), Cond.fieldLink RX0 18 "PledgedLoans$Books" "pledges" "[I", Cond.methodLink RX0 88 yX0_pledgedFor, Cond.instanceMethod yX0_pledgedFor, Cond.selects RX0 yX0_pledgedFor yX0_pledgedFor, Cond.code yX0_pledgedFor cX0_pledgedFor 4 (some .int), Cond.methodLink RX0 107 yX0_whyAbove, Cond.instanceMethod yX0_whyAbove, Cond.selects RX0 yX0_whyAbove yX0_whyAbove, Cond.code yX0_whyAbove cX0_whyAbove 4 (some .int), Cond.methodLink RX0 111 yX0_feeOf, Cond.instanceMethod yX0_feeOf, Cond.selects RX0 yX0_feeOf yX0_feeOf, Cond.code yX0_feeOf cX0_feeOf 2 (some .int), Cond.fieldLink RX0 33 "PledgedLoans$Books" "settings" "[I"]
def wsX0_lend : List Cond := .code yX0_lend cX0_lend 6 (some .int) :: ((wsX0_lend_r1 ++ wsX0_lend_r2) ++ wsX00)
def wsX0_takeBack : List Cond := .code yX0_takeBack cX0_takeBack 3 (some .int) :: ([.fieldLink RX0 21 "PledgedLoans$Books" "rest" "[I", .fieldLink RX0 59 "PledgedLoans$Books" "refused" "I", .fieldLink RX0 40 "PledgedLoans$Books" "till" "I", .fieldLink RX0 27 "PledgedLoans$Books" "paid" "[I"] ++ wsX00)
def wsX0_weeksByWeeks : List Cond := .code yX0_weeksByWeeks cX0_weeksByWeeks 4 (some .int) :: ([.fieldLink RX0 21 "PledgedLoans$Books" "rest" "[I", .fieldLink RX0 24 "PledgedLoans$Books" "part" "[I", .methodLink RX0 65 Lib.Math.min.name, .static Lib.Math.min.name, .initialized "java/lang/Math", .code Lib.Math.min.name Lib.Math.min.code 2 (some .int)] ++ wsX00)
def wsX0_weeksAtOnce : List Cond := .code yX0_weeksAtOnce cX0_weeksAtOnce 3 (some .int) :: ([.fieldLink RX0 24 "PledgedLoans$Books" "part" "[I", .fieldLink RX0 21 "PledgedLoans$Books" "rest" "[I", .methodLink RX0 77 yX0_hasLoan, .instanceMethod yX0_hasLoan, .selects RX0 yX0_hasLoan yX0_hasLoan, .initialized RX0, .code yX0_hasLoan cX0_hasLoan 2 (some .boolean)] ++ wsX00)
def wsX0_mostAtStake : List Cond := .code yX0_mostAtStake cX0_mostAtStake 5 (some .int) :: ([.fieldLink RX0 21 "PledgedLoans$Books" "rest" "[I", .methodLink RX0 85 yX0_ownLeft, .instanceMethod yX0_ownLeft, .selects RX0 yX0_ownLeft yX0_ownLeft, .initialized RX0, .code yX0_ownLeft cX0_ownLeft 2 (some .int), .fieldLink RX0 9 "PledgedLoans$Books" "shares" "[I", .methodLink RX0 81 yX0_pledgedBy, .instanceMethod yX0_pledgedBy, .selects RX0 yX0_pledgedBy yX0_pledgedBy, .code yX0_pledgedBy cX0_pledgedBy 5 (some .int), .fieldLink RX0 18 "PledgedLoans$Books" "pledges" "[I", .methodLink RX0 77 yX0_hasLoan, .instanceMethod yX0_hasLoan, .selects RX0 yX0_hasLoan yX0_hasLoan, .code yX0_hasLoan cX0_hasLoan 2 (some .boolean)] ++ wsX00)
def wsX0_lentPart : List Cond := .code yX0_lentPart cX0_lentPart 2 (some .double) :: ([.methodLink RX0 117 yX0_allShares, .instanceMethod yX0_allShares, .selects RX0 yX0_allShares yX0_allShares, .initialized RX0, .code yX0_allShares cX0_allShares 6 (some .int), .fieldLink RX0 9 "PledgedLoans$Books" "shares" "[I", .methodLink RX0 121 yX0_allRests, .instanceMethod yX0_allRests, .selects RX0 yX0_allRests yX0_allRests, .code yX0_allRests cX0_allRests 6 (some .int), .fieldLink RX0 21 "PledgedLoans$Books" "rest" "[I"] ++ wsX00)
def wsX0_canEndWeek : List Cond := .code yX0_canEndWeek cX0_canEndWeek 1 (some .boolean) :: ([.fieldLink RX0 53 "PledgedLoans$Books" "weeksEnded" "I"] ++ wsX00)
def wsX0_takeDue : List Cond := .code yX0_takeDue cX0_takeDue 7 none :: ([.fieldLink RX0 21 "PledgedLoans$Books" "rest" "[I", .methodLink RX0 65 Lib.Math.min.name, .static Lib.Math.min.name, .initialized "java/lang/Math", .code Lib.Math.min.name Lib.Math.min.code 2 (some .int), .fieldLink RX0 9 "PledgedLoans$Books" "shares" "[I", .fieldLink RX0 18 "PledgedLoans$Books" "pledges" "[I", .methodLink RX0 85 yX0_ownLeft, .instanceMethod yX0_ownLeft, .selects RX0 yX0_ownLeft yX0_ownLeft, .initialized RX0, .code yX0_ownLeft cX0_ownLeft 2 (some .int), .methodLink RX0 81 yX0_pledgedBy, .instanceMethod yX0_pledgedBy, .selects RX0 yX0_pledgedBy yX0_pledgedBy, .code yX0_pledgedBy cX0_pledgedBy 5 (some .int), .methodLink RX0 101 yX0_place, .static yX0_place, .code yX0_place cX0_place 2 (some .int)] ++ wsX00)
def wsX0_endWeekOf_r1 : List Cond := [Cond.fieldLink RX0 30 "PledgedLoans$Books" "misses" "[I", Cond.fieldLink RX0 27 "PledgedLoans$Books" "paid" "[I", Cond.fieldLink RX0 24 "PledgedLoans$Books" "part" "[I", Cond.fieldLink RX0 33 "PledgedLoans$Books" "settings" "[I", Cond.methodLink RX0 127 yX0_takeDue, Cond.instanceMethod yX0_takeDue, Cond.selects RX0 yX0_takeDue yX0_takeDue, Cond.initialized RX0, Cond.code yX0_takeDue cX0_takeDue 7 none, Cond.fieldLink RX0 21 "PledgedLoans$Books" "rest" "[I", Cond.methodLink RX0 65 Lib.Math.min.name, Cond.static Lib.Math.min.name, Cond.initialized "java/lang/Math", Cond.code Lib.Math.min.name Lib.Math.min.code 2 (some .int), Cond.fieldLink RX0 9 "PledgedLoans$Books" "shares" "[I", Cond.fieldLink RX0 18 "PledgedLoans$Books" "pledges" "[I", Cond.methodLink RX0 85 yX0_ownLeft, Cond.instanceMethod yX0_ownLeft, Cond.selects RX0 yX0_ownLeft yX0_ownLeft, Cond.code yX0_ownLeft cX0_ownLeft 2 (some .int), Cond.methodLink RX0 81 yX0_pledgedBy, Cond.instanceMethod yX0_pledgedBy, Cond.selects RX0 yX0_pledgedBy yX0_pledgedBy, Cond.code yX0_pledgedBy cX0_pledgedBy 5 (some .int)]
def wsX0_endWeekOf_r2 : List Cond := [Cond.methodLink RX0 101 yX0_place, Cond.static yX0_place, Cond.code yX0_place cX0_place 2 (some .int)]
def wsX0_endWeekOf : List Cond := .code yX0_endWeekOf cX0_endWeekOf 2 (some .boolean) :: ((wsX0_endWeekOf_r1 ++ wsX0_endWeekOf_r2) ++ wsX00)
def wsX0_endWeek_r1 : List Cond := [Cond.fieldLink RX0 53 "PledgedLoans$Books" "weeksEnded" "I", Cond.fieldLink RX0 50 "PledgedLoans$Books" "loansFallenDue" "I", Cond.methodLink RX0 77 yX0_hasLoan, Cond.instanceMethod yX0_hasLoan, Cond.selects RX0 yX0_hasLoan yX0_hasLoan, Cond.initialized RX0, Cond.code yX0_hasLoan cX0_hasLoan 2 (some .boolean), Cond.fieldLink RX0 21 "PledgedLoans$Books" "rest" "[I", Cond.methodLink RX0 124 yX0_endWeekOf, Cond.instanceMethod yX0_endWeekOf, Cond.selects RX0 yX0_endWeekOf yX0_endWeekOf, Cond.code yX0_endWeekOf cX0_endWeekOf 2 (some .boolean), Cond.fieldLink RX0 30 "PledgedLoans$Books" "misses" "[I", Cond.fieldLink RX0 27 "PledgedLoans$Books" "paid" "[I", Cond.fieldLink RX0 24 "PledgedLoans$Books" "part" "[I", Cond.fieldLink RX0 33 "PledgedLoans$Books" "settings" "[I", Cond.methodLink RX0 127 yX0_takeDue, Cond.instanceMethod yX0_takeDue, Cond.selects RX0 yX0_takeDue yX0_takeDue, Cond.code yX0_takeDue cX0_takeDue 7 none, Cond.methodLink RX0 65 Lib.Math.min.name, Cond.static Lib.Math.min.name, Cond.initialized "java/lang/Math", Cond.code Lib.Math.min.name Lib.Math.min.code 2 (some .int)]
def wsX0_endWeek_r2 : List Cond := [Cond.fieldLink RX0 9 "PledgedLoans$Books" "shares" "[I", Cond.fieldLink RX0 18 "PledgedLoans$Books" "pledges" "[I", Cond.methodLink RX0 85 yX0_ownLeft, Cond.instanceMethod yX0_ownLeft, Cond.selects RX0 yX0_ownLeft yX0_ownLeft, Cond.code yX0_ownLeft cX0_ownLeft 2 (some .int), Cond.methodLink RX0 81 yX0_pledgedBy, Cond.instanceMethod yX0_pledgedBy, Cond.selects RX0 yX0_pledgedBy yX0_pledgedBy, Cond.code yX0_pledgedBy cX0_pledgedBy 5 (some .int), Cond.methodLink RX0 101 yX0_place, Cond.static yX0_place, Cond.code yX0_place cX0_place 2 (some .int)]
def wsX0_endWeek : List Cond := .code yX0_endWeek cX0_endWeek 3 (some .int) :: ((wsX0_endWeek_r1 ++ wsX0_endWeek_r2) ++ wsX00)
def wsX0_canAddDays : List Cond := .code yX0_canAddDays cX0_canAddDays 3 (some .boolean) :: ([.fieldLink RX0 56 "PledgedLoans$Books" "day" "I", .fieldLink RX0 15 "PledgedLoans$Books" "shareDays" "[I", .fieldLink RX0 9 "PledgedLoans$Books" "shares" "[I", .constantLong RX0 131 (100000000)] ++ wsX00)
def wsX0_addDays : List Cond := .code yX0_addDays cX0_addDays 3 (some .int) :: ([.fieldLink RX0 15 "PledgedLoans$Books" "shareDays" "[I", .fieldLink RX0 9 "PledgedLoans$Books" "shares" "[I", .fieldLink RX0 56 "PledgedLoans$Books" "day" "I"] ++ wsX00)
def wsX0_dividendOf : List Cond := .code yX0_dividendOf cX0_dividendOf 4 (some .int) :: ([.fieldLink RX0 44 "PledgedLoans$Books" "surplus" "I", .fieldLink RX0 15 "PledgedLoans$Books" "shareDays" "[I"] ++ wsX00)
def wsX0_shareOut : List Cond := .code yX0_shareOut cX0_shareOut 6 (some .int) :: ([.fieldLink RX0 59 "PledgedLoans$Books" "refused" "I", .fieldLink RX0 9 "PledgedLoans$Books" "shares" "[I", .fieldLink RX0 15 "PledgedLoans$Books" "shareDays" "[I", .fieldLink RX0 44 "PledgedLoans$Books" "surplus" "I", .fieldLink RX0 62 "PledgedLoans$Books" "dividendsPaid" "I", .methodLink RX0 133 yX0_allShareDays, .instanceMethod yX0_allShareDays, .selects RX0 yX0_allShareDays yX0_allShareDays, .initialized RX0, .code yX0_allShareDays cX0_allShareDays 7 (some .long), .methodLink RX0 137 yX0_dividendOf, .instanceMethod yX0_dividendOf, .selects RX0 yX0_dividendOf yX0_dividendOf, .code yX0_dividendOf cX0_dividendOf 4 (some .int)] ++ wsX00)
def wsX1_init : List Cond := .code yX1_init cX1_init 1 none :: ([.methodLink RX1 3 objectInit, .instanceMethod objectInit, .code objectInit ⟨#[0xb1]⟩ 1 none])
def wsX1_restart : List Cond := .code yX1_restart cX1_restart 1 none :: ([.fieldLink RX1 11 "PledgedLoans$OrderReader" "stage" "I", .fieldLink RX1 15 "PledgedLoans$OrderReader" "kind" "C", .fieldLink RX1 19 "PledgedLoans$OrderReader" "amount" "I", .fieldLink RX1 22 "PledgedLoans$OrderReader" "weeks" "I"] ++ wsX10)
def wsX1_isWhole : List Cond := .code yX1_isWhole cX1_isWhole 1 (some .boolean) :: ([.fieldLink RX1 11 "PledgedLoans$OrderReader" "stage" "I", .fieldLink RX1 19 "PledgedLoans$OrderReader" "amount" "I", .fieldLink RX1 15 "PledgedLoans$OrderReader" "kind" "C", .fieldLink RX1 22 "PledgedLoans$OrderReader" "weeks" "I"] ++ wsX10)
def wsX1_takeEnd : List Cond := .code yX1_takeEnd cX1_takeEnd 1 (some .boolean) :: ([.methodLink RX1 49 yX1_isWhole, .instanceMethod yX1_isWhole, .selects RX1 yX1_isWhole yX1_isWhole, .initialized RX1, .code yX1_isWhole cX1_isWhole 1 (some .boolean), .fieldLink RX1 11 "PledgedLoans$OrderReader" "stage" "I", .fieldLink RX1 19 "PledgedLoans$OrderReader" "amount" "I", .fieldLink RX1 15 "PledgedLoans$OrderReader" "kind" "C", .fieldLink RX1 22 "PledgedLoans$OrderReader" "weeks" "I", .methodLink RX1 52 yX1_restart, .instanceMethod yX1_restart, .selects RX1 yX1_restart yX1_restart, .code yX1_restart cX1_restart 1 none] ++ wsX10)
def wsX1_takeKind : List Cond := .code yX1_takeKind cX1_takeKind 2 (some .boolean) :: ([.fieldLink RX1 15 "PledgedLoans$OrderReader" "kind" "C", .fieldLink RX1 11 "PledgedLoans$OrderReader" "stage" "I"] ++ wsX10)
def wsX1_isMember : List Cond := .code yX1_isMember cX1_isMember 1 (some .boolean) :: ([])
def wsX1_takeMember : List Cond := .code yX1_takeMember cX1_takeMember 2 (some .boolean) :: ([.fieldLink RX1 58 "PledgedLoans$OrderReader" "member" "I", .fieldLink RX1 15 "PledgedLoans$OrderReader" "kind" "C", .fieldLink RX1 11 "PledgedLoans$OrderReader" "stage" "I", .methodLink RX1 55 yX1_isMember, .static yX1_isMember, .initialized RX1, .code yX1_isMember cX1_isMember 1 (some .boolean)] ++ wsX10)
def wsX1_takeMark : List Cond := .code yX1_takeMark cX1_takeMark 4 (some .boolean) :: ([.fieldLink RX1 11 "PledgedLoans$OrderReader" "stage" "I"] ++ wsX10)
def wsX1_takeBorrower : List Cond := .code yX1_takeBorrower cX1_takeBorrower 2 (some .boolean) :: ([.fieldLink RX1 58 "PledgedLoans$OrderReader" "member" "I", .fieldLink RX1 61 "PledgedLoans$OrderReader" "borrower" "I", .fieldLink RX1 11 "PledgedLoans$OrderReader" "stage" "I", .methodLink RX1 55 yX1_isMember, .static yX1_isMember, .initialized RX1, .code yX1_isMember cX1_isMember 1 (some .boolean)] ++ wsX10)
def wsX1_longer : List Cond := .code yX1_longer cX1_longer 4 (some .int) :: ([])
def wsX1_takeAmount : List Cond := .code yX1_takeAmount cX1_takeAmount 3 (some .boolean) :: ([.fieldLink RX1 15 "PledgedLoans$OrderReader" "kind" "C", .fieldLink RX1 19 "PledgedLoans$OrderReader" "amount" "I", .fieldLink RX1 11 "PledgedLoans$OrderReader" "stage" "I", .methodLink RX1 64 yX1_longer, .static yX1_longer, .initialized RX1, .code yX1_longer cX1_longer 4 (some .int)] ++ wsX10)
def wsX1_takeWeeks : List Cond := .code yX1_takeWeeks cX1_takeWeeks 3 (some .boolean) :: ([.fieldLink RX1 22 "PledgedLoans$OrderReader" "weeks" "I", .methodLink RX1 64 yX1_longer, .static yX1_longer, .initialized RX1, .code yX1_longer cX1_longer 4 (some .int)] ++ wsX10)
def wsX1_take_r1 : List Cond := [Cond.fieldLink RX1 11 "PledgedLoans$OrderReader" "stage" "I", Cond.methodLink RX1 25 yX1_takeEnd, Cond.instanceMethod yX1_takeEnd, Cond.selects RX1 yX1_takeEnd yX1_takeEnd, Cond.initialized RX1, Cond.code yX1_takeEnd cX1_takeEnd 1 (some .boolean), Cond.methodLink RX1 49 yX1_isWhole, Cond.instanceMethod yX1_isWhole, Cond.selects RX1 yX1_isWhole yX1_isWhole, Cond.code yX1_isWhole cX1_isWhole 1 (some .boolean), Cond.fieldLink RX1 19 "PledgedLoans$OrderReader" "amount" "I", Cond.fieldLink RX1 15 "PledgedLoans$OrderReader" "kind" "C", Cond.fieldLink RX1 22 "PledgedLoans$OrderReader" "weeks" "I", Cond.methodLink RX1 52 yX1_restart, Cond.instanceMethod yX1_restart, Cond.selects RX1 yX1_restart yX1_restart, Cond.code yX1_restart cX1_restart 1 none, Cond.methodLink RX1 29 yX1_takeKind, Cond.instanceMethod yX1_takeKind, Cond.selects RX1 yX1_takeKind yX1_takeKind, Cond.code yX1_takeKind cX1_takeKind 2 (some .boolean), Cond.methodLink RX1 33 yX1_takeMember, Cond.instanceMethod yX1_takeMember, Cond.selects RX1 yX1_takeMember yX1_takeMember]
def wsX1_take_r2 : List Cond := [Cond.code yX1_takeMember cX1_takeMember 2 (some .boolean), Cond.fieldLink RX1 58 "PledgedLoans$OrderReader" "member" "I", Cond.methodLink RX1 55 yX1_isMember, Cond.static yX1_isMember, Cond.code yX1_isMember cX1_isMember 1 (some .boolean), Cond.methodLink RX1 36 yX1_takeMark, Cond.instanceMethod yX1_takeMark, Cond.selects RX1 yX1_takeMark yX1_takeMark, Cond.code yX1_takeMark cX1_takeMark 4 (some .boolean), Cond.methodLink RX1 40 yX1_takeBorrower, Cond.instanceMethod yX1_takeBorrower, Cond.selects RX1 yX1_takeBorrower yX1_takeBorrower, Cond.code yX1_takeBorrower cX1_takeBorrower 2 (some .boolean), Cond.fieldLink RX1 61 "PledgedLoans$OrderReader" "borrower" "I", Cond.methodLink RX1 43 yX1_takeAmount, Cond.instanceMethod yX1_takeAmount, Cond.selects RX1 yX1_takeAmount yX1_takeAmount, Cond.code yX1_takeAmount cX1_takeAmount 3 (some .boolean), Cond.methodLink RX1 64 yX1_longer, Cond.static yX1_longer, Cond.code yX1_longer cX1_longer 4 (some .int), Cond.methodLink RX1 46 yX1_takeWeeks, Cond.instanceMethod yX1_takeWeeks, Cond.selects RX1 yX1_takeWeeks yX1_takeWeeks]
def wsX1_take_r3 : List Cond := [Cond.code yX1_takeWeeks cX1_takeWeeks 3 (some .boolean)]
def wsX1_take : List Cond := .code yX1_take cX1_take 2 (some .boolean) :: ((wsX1_take_r1 ++ (wsX1_take_r2 ++ wsX1_take_r3)) ++ wsX10)
def wsX2_init_r1 : List Cond := [Cond.methodLink RX2 1 objectInit, Cond.instanceMethod objectInit, Cond.code objectInit ⟨#[0xb1]⟩ 1 none, Cond.classLink RX2 7 RX0, Cond.instantiable RX0 16, Cond.initialized RX0, Cond.fieldLink RX2 10 "PledgedLoans" "books" "LPledgedLoans$Books;", Cond.fieldLink RX2 16 "PledgedLoans" "saved" "[LPledgedLoans$Books;", Cond.fieldLink RX2 20 "PledgedLoans" "slots" "[LPledgedLoans$Books;", Cond.arrayClass .boolean, Cond.fieldLink RX2 23 "PledgedLoans" "slotFilled" "[Z", Cond.arrayClass .char, Cond.fieldLink RX2 27 "PledgedLoans" "buffer" "[C", Cond.classLink RX2 31 RX1, Cond.instantiable RX1 6, Cond.initialized RX1, Cond.fieldLink RX2 34 "PledgedLoans" "reader" "LPledgedLoans$OrderReader;", Cond.arrayClass .int, Cond.fieldLink RX2 38 "PledgedLoans" "free" "[I", Cond.instanceMethod yX0_init, Cond.code yX0_init cX0_init 1 none, Cond.methodLink RX0 3 objectInit, Cond.fieldLink RX0 9 "PledgedLoans$Books" "shares" "[I", Cond.fieldLink RX0 15 "PledgedLoans$Books" "shareDays" "[I"]
def wsX2_init_r2 : List Cond := [Cond.fieldLink RX0 18 "PledgedLoans$Books" "pledges" "[I", Cond.fieldLink RX0 21 "PledgedLoans$Books" "rest" "[I", Cond.fieldLink RX0 24 "PledgedLoans$Books" "part" "[I", Cond.fieldLink RX0 27 "PledgedLoans$Books" "paid" "[I", Cond.fieldLink RX0 30 "PledgedLoans$Books" "misses" "[I", Cond.fieldLink RX0 33 "PledgedLoans$Books" "settings" "[I", Cond.instanceMethod yX1_init, Cond.code yX1_init cX1_init 1 none, Cond.methodLink RX1 3 objectInit]
def wsX2_init : List Cond := .code yX2_init cX2_init 2 none :: ((wsX2_init_r1 ++ wsX2_init_r2) ++ wsX00 ++ wsX20 ++ wsX10)
def wsX2_checkMember : List Cond := .code yX2_checkMember cX2_checkMember 1 none :: ([.classLink RX2 208 "java/lang/IndexOutOfBoundsException", .initialized "java/lang/IndexOutOfBoundsException"] ++ (vx_atS RX2 212 "java/lang/IndexOutOfBoundsException" ["java/lang/RuntimeException", "java/lang/Exception"]).filter goodWord)
def wsX2_checkRange : List Cond := .code yX2_checkRange cX2_checkRange 3 none :: ([.classLink RX2 126 "java/lang/IllegalArgumentException", .initialized "java/lang/IllegalArgumentException"] ++ (vx_atS RX2 130 "java/lang/IllegalArgumentException" ["java/lang/RuntimeException", "java/lang/Exception"]).filter goodWord)
def wsX2_checkAmount : List Cond := .code yX2_checkAmount cX2_checkAmount 1 none :: ([.methodLink RX2 70 yX2_checkRange, .static yX2_checkRange, .initialized RX2, .code yX2_checkRange cX2_checkRange 3 none, .classLink RX2 126 "java/lang/IllegalArgumentException", .initialized "java/lang/IllegalArgumentException"] ++ (vx_atS RX2 130 "java/lang/IllegalArgumentException" ["java/lang/RuntimeException", "java/lang/Exception"]).filter goodWord)
def wsX2_dropOldest : List Cond := .code yX2_dropOldest cX2_dropOldest 3 none :: ([.fieldLink RX2 16 "PledgedLoans" "saved" "[LPledgedLoans$Books;", .fieldLink RX2 143 "PledgedLoans" "savedStates" "I"] ++ wsX20)
def wsX2_saveState_r1 : List Cond := [Cond.fieldLink RX2 143 "PledgedLoans" "savedStates" "I", Cond.fieldLink RX2 16 "PledgedLoans" "saved" "[LPledgedLoans$Books;", Cond.fieldLink RX2 10 "PledgedLoans" "books" "LPledgedLoans$Books;", Cond.methodLink RX2 219 yX2_dropOldest, Cond.instanceMethod yX2_dropOldest, Cond.selects RX2 yX2_dropOldest yX2_dropOldest, Cond.initialized RX2, Cond.code yX2_dropOldest cX2_dropOldest 3 none, Cond.methodLink RX2 134 yX0_copyFrom, Cond.instanceMethod yX0_copyFrom, Cond.selects RX0 yX0_copyFrom yX0_copyFrom, Cond.initialized RX0, Cond.code yX0_copyFrom cX0_copyFrom 2 none, Cond.fieldLink RX0 9 "PledgedLoans$Books" "shares" "[I", Cond.fieldLink RX0 15 "PledgedLoans$Books" "shareDays" "[I", Cond.fieldLink RX0 18 "PledgedLoans$Books" "pledges" "[I", Cond.fieldLink RX0 21 "PledgedLoans$Books" "rest" "[I", Cond.fieldLink RX0 24 "PledgedLoans$Books" "part" "[I", Cond.fieldLink RX0 27 "PledgedLoans$Books" "paid" "[I", Cond.fieldLink RX0 30 "PledgedLoans$Books" "misses" "[I", Cond.fieldLink RX0 33 "PledgedLoans$Books" "settings" "[I", Cond.fieldLink RX0 40 "PledgedLoans$Books" "till" "I", Cond.fieldLink RX0 44 "PledgedLoans$Books" "surplus" "I", Cond.fieldLink RX0 47 "PledgedLoans$Books" "loansGiven" "I"]
def wsX2_saveState_r2 : List Cond := [Cond.fieldLink RX0 50 "PledgedLoans$Books" "loansFallenDue" "I", Cond.fieldLink RX0 53 "PledgedLoans$Books" "weeksEnded" "I", Cond.fieldLink RX0 56 "PledgedLoans$Books" "day" "I", Cond.fieldLink RX0 59 "PledgedLoans$Books" "refused" "I", Cond.fieldLink RX0 62 "PledgedLoans$Books" "dividendsPaid" "I", Cond.methodLink RX0 36 yX0_copyRow, Cond.static yX0_copyRow, Cond.code yX0_copyRow cX0_copyRow 2 none, Cond.methodLink RX0 65 Lib.Math.min.name, Cond.static Lib.Math.min.name, Cond.initialized "java/lang/Math", Cond.code Lib.Math.min.name Lib.Math.min.code 2 (some .int), Cond.methodLink RX0 71 arraycopyName, Cond.native arraycopyName, Cond.static arraycopyName, Cond.initialized "java/lang/System"]
def wsX2_saveState : List Cond := .code yX2_saveState cX2_saveState 1 none :: ((wsX2_saveState_r1 ++ wsX2_saveState_r2) ++ wsX20 ++ wsX00)
def wsX2_payIn_r1 : List Cond := [Cond.fieldLink RX2 10 "PledgedLoans" "books" "LPledgedLoans$Books;", Cond.methodLink RX2 42 yX2_checkMember, Cond.static yX2_checkMember, Cond.initialized RX2, Cond.code yX2_checkMember cX2_checkMember 1 none, Cond.classLink RX2 208 "java/lang/IndexOutOfBoundsException", Cond.initialized "java/lang/IndexOutOfBoundsException", Cond.methodLink RX2 46 yX2_checkAmount, Cond.static yX2_checkAmount, Cond.code yX2_checkAmount cX2_checkAmount 1 none, Cond.methodLink RX2 70 yX2_checkRange, Cond.static yX2_checkRange, Cond.code yX2_checkRange cX2_checkRange 3 none, Cond.classLink RX2 126 "java/lang/IllegalArgumentException", Cond.initialized "java/lang/IllegalArgumentException", Cond.methodLink RX2 49 yX2_saveState, Cond.instanceMethod yX2_saveState, Cond.selects RX2 yX2_saveState yX2_saveState, Cond.code yX2_saveState cX2_saveState 1 none, Cond.fieldLink RX2 143 "PledgedLoans" "savedStates" "I", Cond.fieldLink RX2 16 "PledgedLoans" "saved" "[LPledgedLoans$Books;", Cond.methodLink RX2 219 yX2_dropOldest, Cond.instanceMethod yX2_dropOldest, Cond.selects RX2 yX2_dropOldest yX2_dropOldest]
def wsX2_payIn_r2 : List Cond := [Cond.code yX2_dropOldest cX2_dropOldest 3 none, Cond.methodLink RX2 134 yX0_copyFrom, Cond.instanceMethod yX0_copyFrom, Cond.selects RX0 yX0_copyFrom yX0_copyFrom, Cond.initialized RX0, Cond.code yX0_copyFrom cX0_copyFrom 2 none, Cond.fieldLink RX0 9 "PledgedLoans$Books" "shares" "[I", Cond.fieldLink RX0 15 "PledgedLoans$Books" "shareDays" "[I", Cond.fieldLink RX0 18 "PledgedLoans$Books" "pledges" "[I", Cond.fieldLink RX0 21 "PledgedLoans$Books" "rest" "[I", Cond.fieldLink RX0 24 "PledgedLoans$Books" "part" "[I", Cond.fieldLink RX0 27 "PledgedLoans$Books" "paid" "[I", Cond.fieldLink RX0 30 "PledgedLoans$Books" "misses" "[I", Cond.fieldLink RX0 33 "PledgedLoans$Books" "settings" "[I", Cond.fieldLink RX0 40 "PledgedLoans$Books" "till" "I", Cond.fieldLink RX0 44 "PledgedLoans$Books" "surplus" "I", Cond.fieldLink RX0 47 "PledgedLoans$Books" "loansGiven" "I", Cond.fieldLink RX0 50 "PledgedLoans$Books" "loansFallenDue" "I", Cond.fieldLink RX0 53 "PledgedLoans$Books" "weeksEnded" "I", Cond.fieldLink RX0 56 "PledgedLoans$Books" "day" "I", Cond.fieldLink RX0 59 "PledgedLoans$Books" "refused" "I", Cond.fieldLink RX0 62 "PledgedLoans$Books" "dividendsPaid" "I", Cond.methodLink RX0 36 yX0_copyRow, Cond.static yX0_copyRow]
def wsX2_payIn_r3 : List Cond := [Cond.code yX0_copyRow cX0_copyRow 2 none, Cond.methodLink RX0 65 Lib.Math.min.name, Cond.static Lib.Math.min.name, Cond.initialized "java/lang/Math", Cond.code Lib.Math.min.name Lib.Math.min.code 2 (some .int), Cond.methodLink RX0 71 arraycopyName, Cond.native arraycopyName, Cond.static arraycopyName, Cond.initialized "java/lang/System", Cond.methodLink RX2 52 yX0_takeIn, Cond.instanceMethod yX0_takeIn, Cond.selects RX0 yX0_takeIn yX0_takeIn, Cond.code yX0_takeIn cX0_takeIn 4 (some .int), Cond.constant RX0 100 (90000)]
def wsX2_payIn : List Cond := .code yX2_payIn cX2_payIn 3 (some .int) :: ((wsX2_payIn_r1 ++ (wsX2_payIn_r2 ++ wsX2_payIn_r3)) ++ wsX20 ++ wsX00 ++ (vx_atS RX2 212 "java/lang/IndexOutOfBoundsException" ["java/lang/RuntimeException", "java/lang/Exception"]).filter goodWord ++ (vx_atS RX2 130 "java/lang/IllegalArgumentException" ["java/lang/RuntimeException", "java/lang/Exception"]).filter goodWord)
def wsX2_payOut_r1 : List Cond := [Cond.fieldLink RX2 10 "PledgedLoans" "books" "LPledgedLoans$Books;", Cond.methodLink RX2 42 yX2_checkMember, Cond.static yX2_checkMember, Cond.initialized RX2, Cond.code yX2_checkMember cX2_checkMember 1 none, Cond.classLink RX2 208 "java/lang/IndexOutOfBoundsException", Cond.initialized "java/lang/IndexOutOfBoundsException", Cond.methodLink RX2 46 yX2_checkAmount, Cond.static yX2_checkAmount, Cond.code yX2_checkAmount cX2_checkAmount 1 none, Cond.methodLink RX2 70 yX2_checkRange, Cond.static yX2_checkRange, Cond.code yX2_checkRange cX2_checkRange 3 none, Cond.classLink RX2 126 "java/lang/IllegalArgumentException", Cond.initialized "java/lang/IllegalArgumentException", Cond.methodLink RX2 49 yX2_saveState, Cond.instanceMethod yX2_saveState, Cond.selects RX2 yX2_saveState yX2_saveState, Cond.code yX2_saveState cX2_saveState 1 none, Cond.fieldLink RX2 143 "PledgedLoans" "savedStates" "I", Cond.fieldLink RX2 16 "PledgedLoans" "saved" "[LPledgedLoans$Books;", Cond.methodLink RX2 219 yX2_dropOldest, Cond.instanceMethod yX2_dropOldest, Cond.selects RX2 yX2_dropOldest yX2_dropOldest]
def wsX2_payOut_r2 : List Cond := [Cond.code yX2_dropOldest cX2_dropOldest 3 none, Cond.methodLink RX2 134 yX0_copyFrom, Cond.instanceMethod yX0_copyFrom, Cond.selects RX0 yX0_copyFrom yX0_copyFrom, Cond.initialized RX0, Cond.code yX0_copyFrom cX0_copyFrom 2 none, Cond.fieldLink RX0 9 "PledgedLoans$Books" "shares" "[I", Cond.fieldLink RX0 15 "PledgedLoans$Books" "shareDays" "[I", Cond.fieldLink RX0 18 "PledgedLoans$Books" "pledges" "[I", Cond.fieldLink RX0 21 "PledgedLoans$Books" "rest" "[I", Cond.fieldLink RX0 24 "PledgedLoans$Books" "part" "[I", Cond.fieldLink RX0 27 "PledgedLoans$Books" "paid" "[I", Cond.fieldLink RX0 30 "PledgedLoans$Books" "misses" "[I", Cond.fieldLink RX0 33 "PledgedLoans$Books" "settings" "[I", Cond.fieldLink RX0 40 "PledgedLoans$Books" "till" "I", Cond.fieldLink RX0 44 "PledgedLoans$Books" "surplus" "I", Cond.fieldLink RX0 47 "PledgedLoans$Books" "loansGiven" "I", Cond.fieldLink RX0 50 "PledgedLoans$Books" "loansFallenDue" "I", Cond.fieldLink RX0 53 "PledgedLoans$Books" "weeksEnded" "I", Cond.fieldLink RX0 56 "PledgedLoans$Books" "day" "I", Cond.fieldLink RX0 59 "PledgedLoans$Books" "refused" "I", Cond.fieldLink RX0 62 "PledgedLoans$Books" "dividendsPaid" "I", Cond.methodLink RX0 36 yX0_copyRow, Cond.static yX0_copyRow]
def wsX2_payOut_r3 : List Cond := [Cond.code yX0_copyRow cX0_copyRow 2 none, Cond.methodLink RX0 65 Lib.Math.min.name, Cond.static Lib.Math.min.name, Cond.initialized "java/lang/Math", Cond.code Lib.Math.min.name Lib.Math.min.code 2 (some .int), Cond.methodLink RX0 71 arraycopyName, Cond.native arraycopyName, Cond.static arraycopyName, Cond.initialized "java/lang/System", Cond.methodLink RX2 56 yX0_giveOut, Cond.instanceMethod yX0_giveOut, Cond.selects RX0 yX0_giveOut yX0_giveOut, Cond.code yX0_giveOut cX0_giveOut 3 (some .int), Cond.methodLink RX0 97 yX0_freeShares, Cond.instanceMethod yX0_freeShares, Cond.selects RX0 yX0_freeShares yX0_freeShares, Cond.code yX0_freeShares cX0_freeShares 2 (some .int), Cond.methodLink RX0 91 Lib.Math.max.name, Cond.static Lib.Math.max.name, Cond.code Lib.Math.max.name Lib.Math.max.code 2 (some .int), Cond.methodLink RX0 85 yX0_ownLeft, Cond.instanceMethod yX0_ownLeft, Cond.selects RX0 yX0_ownLeft yX0_ownLeft, Cond.code yX0_ownLeft cX0_ownLeft 2 (some .int)]
def wsX2_payOut_r4 : List Cond := [Cond.methodLink RX0 81 yX0_pledgedBy, Cond.instanceMethod yX0_pledgedBy, Cond.selects RX0 yX0_pledgedBy yX0_pledgedBy, Cond.code yX0_pledgedBy cX0_pledgedBy 5 (some .int), Cond.methodLink RX0 88 yX0_pledgedFor, Cond.instanceMethod yX0_pledgedFor, Cond.selects RX0 yX0_pledgedFor yX0_pledgedFor, Cond.code yX0_pledgedFor cX0_pledgedFor 4 (some .int)]
def wsX2_payOut : List Cond := .code yX2_payOut cX2_payOut 3 (some .int) :: ((wsX2_payOut_r1 ++ (wsX2_payOut_r2 ++ (wsX2_payOut_r3 ++ wsX2_payOut_r4))) ++ wsX20 ++ wsX00 ++ (vx_atS RX2 212 "java/lang/IndexOutOfBoundsException" ["java/lang/RuntimeException", "java/lang/Exception"]).filter goodWord ++ (vx_atS RX2 130 "java/lang/IllegalArgumentException" ["java/lang/RuntimeException", "java/lang/Exception"]).filter goodWord)
def wsX2_checkPair : List Cond := .code yX2_checkPair cX2_checkPair 2 none :: ([.classLink RX2 126 "java/lang/IllegalArgumentException", .initialized "java/lang/IllegalArgumentException", .methodLink RX2 42 yX2_checkMember, .static yX2_checkMember, .initialized RX2, .code yX2_checkMember cX2_checkMember 1 none, .classLink RX2 208 "java/lang/IndexOutOfBoundsException", .initialized "java/lang/IndexOutOfBoundsException"] ++ (vx_atS RX2 130 "java/lang/IllegalArgumentException" ["java/lang/RuntimeException", "java/lang/Exception"]).filter goodWord ++ (vx_atS RX2 212 "java/lang/IndexOutOfBoundsException" ["java/lang/RuntimeException", "java/lang/Exception"]).filter goodWord)
def wsX2_pledge_r1 : List Cond := [Cond.fieldLink RX2 10 "PledgedLoans" "books" "LPledgedLoans$Books;", Cond.methodLink RX2 59 yX2_checkPair, Cond.static yX2_checkPair, Cond.initialized RX2, Cond.code yX2_checkPair cX2_checkPair 2 none, Cond.classLink RX2 126 "java/lang/IllegalArgumentException", Cond.initialized "java/lang/IllegalArgumentException", Cond.methodLink RX2 42 yX2_checkMember, Cond.static yX2_checkMember, Cond.code yX2_checkMember cX2_checkMember 1 none, Cond.classLink RX2 208 "java/lang/IndexOutOfBoundsException", Cond.initialized "java/lang/IndexOutOfBoundsException", Cond.methodLink RX2 46 yX2_checkAmount, Cond.static yX2_checkAmount, Cond.code yX2_checkAmount cX2_checkAmount 1 none, Cond.methodLink RX2 70 yX2_checkRange, Cond.static yX2_checkRange, Cond.code yX2_checkRange cX2_checkRange 3 none, Cond.methodLink RX2 49 yX2_saveState, Cond.instanceMethod yX2_saveState, Cond.selects RX2 yX2_saveState yX2_saveState, Cond.code yX2_saveState cX2_saveState 1 none, Cond.fieldLink RX2 143 "PledgedLoans" "savedStates" "I", Cond.fieldLink RX2 16 "PledgedLoans" "saved" "[LPledgedLoans$Books;"]
def wsX2_pledge_r2 : List Cond := [Cond.methodLink RX2 219 yX2_dropOldest, Cond.instanceMethod yX2_dropOldest, Cond.selects RX2 yX2_dropOldest yX2_dropOldest, Cond.code yX2_dropOldest cX2_dropOldest 3 none, Cond.methodLink RX2 134 yX0_copyFrom, Cond.instanceMethod yX0_copyFrom, Cond.selects RX0 yX0_copyFrom yX0_copyFrom, Cond.initialized RX0, Cond.code yX0_copyFrom cX0_copyFrom 2 none, Cond.fieldLink RX0 9 "PledgedLoans$Books" "shares" "[I", Cond.fieldLink RX0 15 "PledgedLoans$Books" "shareDays" "[I", Cond.fieldLink RX0 18 "PledgedLoans$Books" "pledges" "[I", Cond.fieldLink RX0 21 "PledgedLoans$Books" "rest" "[I", Cond.fieldLink RX0 24 "PledgedLoans$Books" "part" "[I", Cond.fieldLink RX0 27 "PledgedLoans$Books" "paid" "[I", Cond.fieldLink RX0 30 "PledgedLoans$Books" "misses" "[I", Cond.fieldLink RX0 33 "PledgedLoans$Books" "settings" "[I", Cond.fieldLink RX0 40 "PledgedLoans$Books" "till" "I", Cond.fieldLink RX0 44 "PledgedLoans$Books" "surplus" "I", Cond.fieldLink RX0 47 "PledgedLoans$Books" "loansGiven" "I", Cond.fieldLink RX0 50 "PledgedLoans$Books" "loansFallenDue" "I", Cond.fieldLink RX0 53 "PledgedLoans$Books" "weeksEnded" "I", Cond.fieldLink RX0 56 "PledgedLoans$Books" "day" "I", Cond.fieldLink RX0 59 "PledgedLoans$Books" "refused" "I"]
def wsX2_pledge_r3 : List Cond := [Cond.fieldLink RX0 62 "PledgedLoans$Books" "dividendsPaid" "I", Cond.methodLink RX0 36 yX0_copyRow, Cond.static yX0_copyRow, Cond.code yX0_copyRow cX0_copyRow 2 none, Cond.methodLink RX0 65 Lib.Math.min.name, Cond.static Lib.Math.min.name, Cond.initialized "java/lang/Math", Cond.code Lib.Math.min.name Lib.Math.min.code 2 (some .int), Cond.methodLink RX0 71 arraycopyName, Cond.native arraycopyName, Cond.static arraycopyName, Cond.initialized "java/lang/System", Cond.methodLink RX2 63 yX0_addPledge, Cond.instanceMethod yX0_addPledge, Cond.selects RX0 yX0_addPledge yX0_addPledge, Cond.code yX0_addPledge cX0_addPledge 5 (some .int), Cond.methodLink RX0 97 yX0_freeShares, Cond.instanceMethod yX0_freeShares, Cond.selects RX0 yX0_freeShares yX0_freeShares, Cond.code yX0_freeShares cX0_freeShares 2 (some .int), Cond.methodLink RX0 91 Lib.Math.max.name, Cond.static Lib.Math.max.name, Cond.code Lib.Math.max.name Lib.Math.max.code 2 (some .int), Cond.methodLink RX0 85 yX0_ownLeft]
def wsX2_pledge_r4 : List Cond := [Cond.instanceMethod yX0_ownLeft, Cond.selects RX0 yX0_ownLeft yX0_ownLeft, Cond.code yX0_ownLeft cX0_ownLeft 2 (some .int), Cond.methodLink RX0 81 yX0_pledgedBy, Cond.instanceMethod yX0_pledgedBy, Cond.selects RX0 yX0_pledgedBy yX0_pledgedBy, Cond.code yX0_pledgedBy cX0_pledgedBy 5 (some .int), Cond.methodLink RX0 88 yX0_pledgedFor, Cond.instanceMethod yX0_pledgedFor, Cond.selects RX0 yX0_pledgedFor yX0_pledgedFor, Cond.code yX0_pledgedFor cX0_pledgedFor 4 (some .int), Cond.methodLink RX0 101 yX0_place, Cond.static yX0_place, Cond.code yX0_place cX0_place 2 (some .int)]
def wsX2_pledge : List Cond := .code yX2_pledge cX2_pledge 4 (some .int) :: ((wsX2_pledge_r1 ++ (wsX2_pledge_r2 ++ (wsX2_pledge_r3 ++ wsX2_pledge_r4))) ++ wsX20 ++ wsX00 ++ (vx_atS RX2 130 "java/lang/IllegalArgumentException" ["java/lang/RuntimeException", "java/lang/Exception"]).filter goodWord ++ (vx_atS RX2 212 "java/lang/IndexOutOfBoundsException" ["java/lang/RuntimeException", "java/lang/Exception"]).filter goodWord)
def wsX2_unpledge_r1 : List Cond := [Cond.fieldLink RX2 10 "PledgedLoans" "books" "LPledgedLoans$Books;", Cond.methodLink RX2 59 yX2_checkPair, Cond.static yX2_checkPair, Cond.initialized RX2, Cond.code yX2_checkPair cX2_checkPair 2 none, Cond.classLink RX2 126 "java/lang/IllegalArgumentException", Cond.initialized "java/lang/IllegalArgumentException", Cond.methodLink RX2 42 yX2_checkMember, Cond.static yX2_checkMember, Cond.code yX2_checkMember cX2_checkMember 1 none, Cond.classLink RX2 208 "java/lang/IndexOutOfBoundsException", Cond.initialized "java/lang/IndexOutOfBoundsException", Cond.methodLink RX2 46 yX2_checkAmount, Cond.static yX2_checkAmount, Cond.code yX2_checkAmount cX2_checkAmount 1 none, Cond.methodLink RX2 70 yX2_checkRange, Cond.static yX2_checkRange, Cond.code yX2_checkRange cX2_checkRange 3 none, Cond.methodLink RX2 49 yX2_saveState, Cond.instanceMethod yX2_saveState, Cond.selects RX2 yX2_saveState yX2_saveState, Cond.code yX2_saveState cX2_saveState 1 none, Cond.fieldLink RX2 143 "PledgedLoans" "savedStates" "I", Cond.fieldLink RX2 16 "PledgedLoans" "saved" "[LPledgedLoans$Books;"]
def wsX2_unpledge_r2 : List Cond := [Cond.methodLink RX2 219 yX2_dropOldest, Cond.instanceMethod yX2_dropOldest, Cond.selects RX2 yX2_dropOldest yX2_dropOldest, Cond.code yX2_dropOldest cX2_dropOldest 3 none, Cond.methodLink RX2 134 yX0_copyFrom, Cond.instanceMethod yX0_copyFrom, Cond.selects RX0 yX0_copyFrom yX0_copyFrom, Cond.initialized RX0, Cond.code yX0_copyFrom cX0_copyFrom 2 none, Cond.fieldLink RX0 9 "PledgedLoans$Books" "shares" "[I", Cond.fieldLink RX0 15 "PledgedLoans$Books" "shareDays" "[I", Cond.fieldLink RX0 18 "PledgedLoans$Books" "pledges" "[I", Cond.fieldLink RX0 21 "PledgedLoans$Books" "rest" "[I", Cond.fieldLink RX0 24 "PledgedLoans$Books" "part" "[I", Cond.fieldLink RX0 27 "PledgedLoans$Books" "paid" "[I", Cond.fieldLink RX0 30 "PledgedLoans$Books" "misses" "[I", Cond.fieldLink RX0 33 "PledgedLoans$Books" "settings" "[I", Cond.fieldLink RX0 40 "PledgedLoans$Books" "till" "I", Cond.fieldLink RX0 44 "PledgedLoans$Books" "surplus" "I", Cond.fieldLink RX0 47 "PledgedLoans$Books" "loansGiven" "I", Cond.fieldLink RX0 50 "PledgedLoans$Books" "loansFallenDue" "I", Cond.fieldLink RX0 53 "PledgedLoans$Books" "weeksEnded" "I", Cond.fieldLink RX0 56 "PledgedLoans$Books" "day" "I", Cond.fieldLink RX0 59 "PledgedLoans$Books" "refused" "I"]
def wsX2_unpledge_r3 : List Cond := [Cond.fieldLink RX0 62 "PledgedLoans$Books" "dividendsPaid" "I", Cond.methodLink RX0 36 yX0_copyRow, Cond.static yX0_copyRow, Cond.code yX0_copyRow cX0_copyRow 2 none, Cond.methodLink RX0 65 Lib.Math.min.name, Cond.static Lib.Math.min.name, Cond.initialized "java/lang/Math", Cond.code Lib.Math.min.name Lib.Math.min.code 2 (some .int), Cond.methodLink RX0 71 arraycopyName, Cond.native arraycopyName, Cond.static arraycopyName, Cond.initialized "java/lang/System", Cond.methodLink RX2 67 yX0_dropPledge, Cond.instanceMethod yX0_dropPledge, Cond.selects RX0 yX0_dropPledge yX0_dropPledge, Cond.code yX0_dropPledge cX0_dropPledge 5 (some .int), Cond.methodLink RX0 101 yX0_place, Cond.static yX0_place, Cond.code yX0_place cX0_place 2 (some .int), Cond.methodLink RX0 94 yX0_cover, Cond.instanceMethod yX0_cover, Cond.selects RX0 yX0_cover yX0_cover, Cond.code yX0_cover cX0_cover 2 (some .int), Cond.methodLink RX0 85 yX0_ownLeft]
def wsX2_unpledge_r4 : List Cond := [Cond.instanceMethod yX0_ownLeft, Cond.selects RX0 yX0_ownLeft yX0_ownLeft, Cond.code yX0_ownLeft cX0_ownLeft 2 (some .int), Cond.methodLink RX0 81 yX0_pledgedBy, Cond.instanceMethod yX0_pledgedBy, Cond.selects RX0 yX0_pledgedBy yX0_pledgedBy, Cond.code yX0_pledgedBy cX0_pledgedBy 5 (some .int), Cond.methodLink RX0 88 yX0_pledgedFor, Cond.instanceMethod yX0_pledgedFor, Cond.selects RX0 yX0_pledgedFor yX0_pledgedFor, Cond.code yX0_pledgedFor cX0_pledgedFor 4 (some .int)]
def wsX2_unpledge : List Cond := .code yX2_unpledge cX2_unpledge 4 (some .int) :: ((wsX2_unpledge_r1 ++ (wsX2_unpledge_r2 ++ (wsX2_unpledge_r3 ++ wsX2_unpledge_r4))) ++ wsX20 ++ wsX00 ++ (vx_atS RX2 130 "java/lang/IllegalArgumentException" ["java/lang/RuntimeException", "java/lang/Exception"]).filter goodWord ++ (vx_atS RX2 212 "java/lang/IndexOutOfBoundsException" ["java/lang/RuntimeException", "java/lang/Exception"]).filter goodWord)
def wsX2_borrow_r1 : List Cond := [Cond.fieldLink RX2 10 "PledgedLoans" "books" "LPledgedLoans$Books;", Cond.methodLink RX2 42 yX2_checkMember, Cond.static yX2_checkMember, Cond.initialized RX2, Cond.code yX2_checkMember cX2_checkMember 1 none, Cond.classLink RX2 208 "java/lang/IndexOutOfBoundsException", Cond.initialized "java/lang/IndexOutOfBoundsException", Cond.methodLink RX2 46 yX2_checkAmount, Cond.static yX2_checkAmount, Cond.code yX2_checkAmount cX2_checkAmount 1 none, Cond.methodLink RX2 70 yX2_checkRange, Cond.static yX2_checkRange, Cond.code yX2_checkRange cX2_checkRange 3 none, Cond.classLink RX2 126 "java/lang/IllegalArgumentException", Cond.initialized "java/lang/IllegalArgumentException", Cond.methodLink RX2 49 yX2_saveState, Cond.instanceMethod yX2_saveState, Cond.selects RX2 yX2_saveState yX2_saveState, Cond.code yX2_saveState cX2_saveState 1 none, Cond.fieldLink RX2 143 "PledgedLoans" "savedStates" "I", Cond.fieldLink RX2 16 "PledgedLoans" "saved" "[LPledgedLoans$Books;", Cond.methodLink RX2 219 yX2_dropOldest, Cond.instanceMethod yX2_dropOldest, Cond.selects RX2 yX2_dropOldest yX2_dropOldest]
def wsX2_borrow_r2 : List Cond := [Cond.code yX2_dropOldest cX2_dropOldest 3 none, Cond.methodLink RX2 134 yX0_copyFrom, Cond.instanceMethod yX0_copyFrom, Cond.selects RX0 yX0_copyFrom yX0_copyFrom, Cond.initialized RX0, Cond.code yX0_copyFrom cX0_copyFrom 2 none, Cond.fieldLink RX0 9 "PledgedLoans$Books" "shares" "[I", Cond.fieldLink RX0 15 "PledgedLoans$Books" "shareDays" "[I", Cond.fieldLink RX0 18 "PledgedLoans$Books" "pledges" "[I", Cond.fieldLink RX0 21 "PledgedLoans$Books" "rest" "[I", Cond.fieldLink RX0 24 "PledgedLoans$Books" "part" "[I", Cond.fieldLink RX0 27 "PledgedLoans$Books" "paid" "[I", Cond.fieldLink RX0 30 "PledgedLoans$Books" "misses" "[I", Cond.fieldLink RX0 33 "PledgedLoans$Books" "settings" "[I", Cond.fieldLink RX0 40 "PledgedLoans$Books" "till" "I", Cond.fieldLink RX0 44 "PledgedLoans$Books" "surplus" "I", Cond.fieldLink RX0 47 "PledgedLoans$Books" "loansGiven" "I", Cond.fieldLink RX0 50 "PledgedLoans$Books" "loansFallenDue" "I", Cond.fieldLink RX0 53 "PledgedLoans$Books" "weeksEnded" "I", Cond.fieldLink RX0 56 "PledgedLoans$Books" "day" "I", Cond.fieldLink RX0 59 "PledgedLoans$Books" "refused" "I", Cond.fieldLink RX0 62 "PledgedLoans$Books" "dividendsPaid" "I", Cond.methodLink RX0 36 yX0_copyRow, Cond.static yX0_copyRow]
def wsX2_borrow_r3 : List Cond := [Cond.code yX0_copyRow cX0_copyRow 2 none, Cond.methodLink RX0 65 Lib.Math.min.name, Cond.static Lib.Math.min.name, Cond.initialized "java/lang/Math", Cond.code Lib.Math.min.name Lib.Math.min.code 2 (some .int), Cond.methodLink RX0 71 arraycopyName, Cond.native arraycopyName, Cond.static arraycopyName, Cond.initialized "java/lang/System", Cond.methodLink RX2 74 yX0_lend, Cond.instanceMethod yX0_lend, Cond.selects RX0 yX0_lend yX0_lend, Cond.code yX0_lend cX0_lend 6 (some .int), Cond.methodLink RX0 114 yX0_whyNoLoan, Cond.instanceMethod yX0_whyNoLoan, Cond.selects RX0 yX0_whyNoLoan yX0_whyNoLoan, Cond.code yX0_whyNoLoan cX0_whyNoLoan 3 (some .int), Cond.methodLink RX0 77 yX0_hasLoan, Cond.instanceMethod yX0_hasLoan, Cond.selects RX0 yX0_hasLoan yX0_hasLoan, Cond.code yX0_hasLoan cX0_hasLoan 2 (some .boolean), Cond.methodLink RX0 104 yX0_threefold, Cond.instanceMethod yX0_threefold, Cond.selects RX0 yX0_threefold yX0_threefold]
def wsX2_borrow_r4 : List Cond := [Cond.code yX0_threefold cX0_threefold 2 (some .int), Cond.methodLink RX0 94 yX0_cover, Cond.instanceMethod yX0_cover, Cond.selects RX0 yX0_cover yX0_cover, Cond.code yX0_cover cX0_cover 2 (some .int), Cond.methodLink RX0 85 yX0_ownLeft, Cond.instanceMethod yX0_ownLeft, Cond.selects RX0 yX0_ownLeft yX0_ownLeft, Cond.code yX0_ownLeft cX0_ownLeft 2 (some .int), Cond.methodLink RX0 81 yX0_pledgedBy, Cond.instanceMethod yX0_pledgedBy, Cond.selects RX0 yX0_pledgedBy yX0_pledgedBy, Cond.code yX0_pledgedBy cX0_pledgedBy 5 (some .int), Cond.methodLink RX0 88 yX0_pledgedFor, Cond.instanceMethod yX0_pledgedFor, Cond.selects RX0 yX0_pledgedFor yX0_pledgedFor, Cond.code yX0_pledgedFor cX0_pledgedFor 4 (some .int), Cond.methodLink RX0 107 yX0_whyAbove, Cond.instanceMethod yX0_whyAbove, Cond.selects RX0 yX0_whyAbove yX0_whyAbove, Cond.code yX0_whyAbove cX0_whyAbove 4 (some .int), Cond.methodLink RX0 111 yX0_feeOf, Cond.instanceMethod yX0_feeOf, Cond.selects RX0 yX0_feeOf yX0_feeOf]
def wsX2_borrow_r5 : List Cond := [Cond.code yX0_feeOf cX0_feeOf 2 (some .int)]
def wsX2_borrow : List Cond := .code yX2_borrow cX2_borrow 4 (some .int) :: ((wsX2_borrow_r1 ++ (wsX2_borrow_r2 ++ (wsX2_borrow_r3 ++ (wsX2_borrow_r4 ++ wsX2_borrow_r5)))) ++ wsX20 ++ wsX00 ++ (vx_atS RX2 212 "java/lang/IndexOutOfBoundsException" ["java/lang/RuntimeException", "java/lang/Exception"]).filter goodWord ++ (vx_atS RX2 130 "java/lang/IllegalArgumentException" ["java/lang/RuntimeException", "java/lang/Exception"]).filter goodWord)
def wsX2_repay_r1 : List Cond := [Cond.fieldLink RX2 10 "PledgedLoans" "books" "LPledgedLoans$Books;", Cond.methodLink RX2 42 yX2_checkMember, Cond.static yX2_checkMember, Cond.initialized RX2, Cond.code yX2_checkMember cX2_checkMember 1 none, Cond.classLink RX2 208 "java/lang/IndexOutOfBoundsException", Cond.initialized "java/lang/IndexOutOfBoundsException", Cond.methodLink RX2 46 yX2_checkAmount, Cond.static yX2_checkAmount, Cond.code yX2_checkAmount cX2_checkAmount 1 none, Cond.methodLink RX2 70 yX2_checkRange, Cond.static yX2_checkRange, Cond.code yX2_checkRange cX2_checkRange 3 none, Cond.classLink RX2 126 "java/lang/IllegalArgumentException", Cond.initialized "java/lang/IllegalArgumentException", Cond.methodLink RX2 49 yX2_saveState, Cond.instanceMethod yX2_saveState, Cond.selects RX2 yX2_saveState yX2_saveState, Cond.code yX2_saveState cX2_saveState 1 none, Cond.fieldLink RX2 143 "PledgedLoans" "savedStates" "I", Cond.fieldLink RX2 16 "PledgedLoans" "saved" "[LPledgedLoans$Books;", Cond.methodLink RX2 219 yX2_dropOldest, Cond.instanceMethod yX2_dropOldest, Cond.selects RX2 yX2_dropOldest yX2_dropOldest]
def wsX2_repay_r2 : List Cond := [Cond.code yX2_dropOldest cX2_dropOldest 3 none, Cond.methodLink RX2 134 yX0_copyFrom, Cond.instanceMethod yX0_copyFrom, Cond.selects RX0 yX0_copyFrom yX0_copyFrom, Cond.initialized RX0, Cond.code yX0_copyFrom cX0_copyFrom 2 none, Cond.fieldLink RX0 9 "PledgedLoans$Books" "shares" "[I", Cond.fieldLink RX0 15 "PledgedLoans$Books" "shareDays" "[I", Cond.fieldLink RX0 18 "PledgedLoans$Books" "pledges" "[I", Cond.fieldLink RX0 21 "PledgedLoans$Books" "rest" "[I", Cond.fieldLink RX0 24 "PledgedLoans$Books" "part" "[I", Cond.fieldLink RX0 27 "PledgedLoans$Books" "paid" "[I", Cond.fieldLink RX0 30 "PledgedLoans$Books" "misses" "[I", Cond.fieldLink RX0 33 "PledgedLoans$Books" "settings" "[I", Cond.fieldLink RX0 40 "PledgedLoans$Books" "till" "I", Cond.fieldLink RX0 44 "PledgedLoans$Books" "surplus" "I", Cond.fieldLink RX0 47 "PledgedLoans$Books" "loansGiven" "I", Cond.fieldLink RX0 50 "PledgedLoans$Books" "loansFallenDue" "I", Cond.fieldLink RX0 53 "PledgedLoans$Books" "weeksEnded" "I", Cond.fieldLink RX0 56 "PledgedLoans$Books" "day" "I", Cond.fieldLink RX0 59 "PledgedLoans$Books" "refused" "I", Cond.fieldLink RX0 62 "PledgedLoans$Books" "dividendsPaid" "I", Cond.methodLink RX0 36 yX0_copyRow, Cond.static yX0_copyRow]
def wsX2_repay_r3 : List Cond := [Cond.code yX0_copyRow cX0_copyRow 2 none, Cond.methodLink RX0 65 Lib.Math.min.name, Cond.static Lib.Math.min.name, Cond.initialized "java/lang/Math", Cond.code Lib.Math.min.name Lib.Math.min.code 2 (some .int), Cond.methodLink RX0 71 arraycopyName, Cond.native arraycopyName, Cond.static arraycopyName, Cond.initialized "java/lang/System", Cond.methodLink RX2 77 yX0_takeBack, Cond.instanceMethod yX0_takeBack, Cond.selects RX0 yX0_takeBack yX0_takeBack, Cond.code yX0_takeBack cX0_takeBack 3 (some .int)]
def wsX2_repay : List Cond := .code yX2_repay cX2_repay 3 (some .int) :: ((wsX2_repay_r1 ++ (wsX2_repay_r2 ++ wsX2_repay_r3)) ++ wsX20 ++ wsX00 ++ (vx_atS RX2 212 "java/lang/IndexOutOfBoundsException" ["java/lang/RuntimeException", "java/lang/Exception"]).filter goodWord ++ (vx_atS RX2 130 "java/lang/IllegalArgumentException" ["java/lang/RuntimeException", "java/lang/Exception"]).filter goodWord)
def wsX2_week_r1 : List Cond := [Cond.classLink RX2 84 "java/lang/IllegalStateException", Cond.initialized "java/lang/IllegalStateException", Cond.fieldLink RX2 10 "PledgedLoans" "books" "LPledgedLoans$Books;", Cond.methodLink RX2 80 yX0_canEndWeek, Cond.instanceMethod yX0_canEndWeek, Cond.selects RX0 yX0_canEndWeek yX0_canEndWeek, Cond.initialized RX0, Cond.code yX0_canEndWeek cX0_canEndWeek 1 (some .boolean), Cond.fieldLink RX0 53 "PledgedLoans$Books" "weeksEnded" "I", Cond.methodLink RX2 49 yX2_saveState, Cond.instanceMethod yX2_saveState, Cond.selects RX2 yX2_saveState yX2_saveState, Cond.initialized RX2, Cond.code yX2_saveState cX2_saveState 1 none, Cond.fieldLink RX2 143 "PledgedLoans" "savedStates" "I", Cond.fieldLink RX2 16 "PledgedLoans" "saved" "[LPledgedLoans$Books;", Cond.methodLink RX2 219 yX2_dropOldest, Cond.instanceMethod yX2_dropOldest, Cond.selects RX2 yX2_dropOldest yX2_dropOldest, Cond.code yX2_dropOldest cX2_dropOldest 3 none, Cond.methodLink RX2 134 yX0_copyFrom, Cond.instanceMethod yX0_copyFrom, Cond.selects RX0 yX0_copyFrom yX0_copyFrom, Cond.code yX0_copyFrom cX0_copyFrom 2 none]
def wsX2_week_r2 : List Cond := [Cond.fieldLink RX0 9 "PledgedLoans$Books" "shares" "[I", Cond.fieldLink RX0 15 "PledgedLoans$Books" "shareDays" "[I", Cond.fieldLink RX0 18 "PledgedLoans$Books" "pledges" "[I", Cond.fieldLink RX0 21 "PledgedLoans$Books" "rest" "[I", Cond.fieldLink RX0 24 "PledgedLoans$Books" "part" "[I", Cond.fieldLink RX0 27 "PledgedLoans$Books" "paid" "[I", Cond.fieldLink RX0 30 "PledgedLoans$Books" "misses" "[I", Cond.fieldLink RX0 33 "PledgedLoans$Books" "settings" "[I", Cond.fieldLink RX0 40 "PledgedLoans$Books" "till" "I", Cond.fieldLink RX0 44 "PledgedLoans$Books" "surplus" "I", Cond.fieldLink RX0 47 "PledgedLoans$Books" "loansGiven" "I", Cond.fieldLink RX0 50 "PledgedLoans$Books" "loansFallenDue" "I", Cond.fieldLink RX0 56 "PledgedLoans$Books" "day" "I", Cond.fieldLink RX0 59 "PledgedLoans$Books" "refused" "I", Cond.fieldLink RX0 62 "PledgedLoans$Books" "dividendsPaid" "I", Cond.methodLink RX0 36 yX0_copyRow, Cond.static yX0_copyRow, Cond.code yX0_copyRow cX0_copyRow 2 none, Cond.methodLink RX0 65 Lib.Math.min.name, Cond.static Lib.Math.min.name, Cond.initialized "java/lang/Math", Cond.code Lib.Math.min.name Lib.Math.min.code 2 (some .int), Cond.methodLink RX0 71 arraycopyName, Cond.native arraycopyName]
def wsX2_week_r3 : List Cond := [Cond.static arraycopyName, Cond.initialized "java/lang/System", Cond.methodLink RX2 91 yX0_endWeek, Cond.instanceMethod yX0_endWeek, Cond.selects RX0 yX0_endWeek yX0_endWeek, Cond.code yX0_endWeek cX0_endWeek 3 (some .int), Cond.methodLink RX0 77 yX0_hasLoan, Cond.instanceMethod yX0_hasLoan, Cond.selects RX0 yX0_hasLoan yX0_hasLoan, Cond.code yX0_hasLoan cX0_hasLoan 2 (some .boolean), Cond.methodLink RX0 124 yX0_endWeekOf, Cond.instanceMethod yX0_endWeekOf, Cond.selects RX0 yX0_endWeekOf yX0_endWeekOf, Cond.code yX0_endWeekOf cX0_endWeekOf 2 (some .boolean), Cond.methodLink RX0 127 yX0_takeDue, Cond.instanceMethod yX0_takeDue, Cond.selects RX0 yX0_takeDue yX0_takeDue, Cond.code yX0_takeDue cX0_takeDue 7 none, Cond.methodLink RX0 85 yX0_ownLeft, Cond.instanceMethod yX0_ownLeft, Cond.selects RX0 yX0_ownLeft yX0_ownLeft, Cond.code yX0_ownLeft cX0_ownLeft 2 (some .int), Cond.methodLink RX0 81 yX0_pledgedBy, Cond.instanceMethod yX0_pledgedBy]
def wsX2_week_r4 : List Cond := [Cond.selects RX0 yX0_pledgedBy yX0_pledgedBy, Cond.code yX0_pledgedBy cX0_pledgedBy 5 (some .int), Cond.methodLink RX0 101 yX0_place, Cond.static yX0_place, Cond.code yX0_place cX0_place 2 (some .int)]
def wsX2_week : List Cond := .code yX2_week cX2_week 1 (some .int) :: ((wsX2_week_r1 ++ (wsX2_week_r2 ++ (wsX2_week_r3 ++ wsX2_week_r4))) ++ wsX20 ++ wsX00 ++ (vx_atS RX2 88 "java/lang/IllegalStateException" ["java/lang/RuntimeException", "java/lang/Exception"]).filter goodWord)
def wsX2_pass_r1 : List Cond := [Cond.classLink RX2 84 "java/lang/IllegalStateException", Cond.initialized "java/lang/IllegalStateException", Cond.fieldLink RX2 10 "PledgedLoans" "books" "LPledgedLoans$Books;", Cond.methodLink RX2 70 yX2_checkRange, Cond.static yX2_checkRange, Cond.initialized RX2, Cond.code yX2_checkRange cX2_checkRange 3 none, Cond.classLink RX2 126 "java/lang/IllegalArgumentException", Cond.initialized "java/lang/IllegalArgumentException", Cond.methodLink RX2 95 yX0_canAddDays, Cond.instanceMethod yX0_canAddDays, Cond.selects RX0 yX0_canAddDays yX0_canAddDays, Cond.initialized RX0, Cond.code yX0_canAddDays cX0_canAddDays 3 (some .boolean), Cond.fieldLink RX0 56 "PledgedLoans$Books" "day" "I", Cond.fieldLink RX0 15 "PledgedLoans$Books" "shareDays" "[I", Cond.fieldLink RX0 9 "PledgedLoans$Books" "shares" "[I", Cond.constantLong RX0 131 (100000000), Cond.methodLink RX2 49 yX2_saveState, Cond.instanceMethod yX2_saveState, Cond.selects RX2 yX2_saveState yX2_saveState, Cond.code yX2_saveState cX2_saveState 1 none, Cond.fieldLink RX2 143 "PledgedLoans" "savedStates" "I", Cond.fieldLink RX2 16 "PledgedLoans" "saved" "[LPledgedLoans$Books;"]
def wsX2_pass_r2 : List Cond := [Cond.methodLink RX2 219 yX2_dropOldest, Cond.instanceMethod yX2_dropOldest, Cond.selects RX2 yX2_dropOldest yX2_dropOldest, Cond.code yX2_dropOldest cX2_dropOldest 3 none, Cond.methodLink RX2 134 yX0_copyFrom, Cond.instanceMethod yX0_copyFrom, Cond.selects RX0 yX0_copyFrom yX0_copyFrom, Cond.code yX0_copyFrom cX0_copyFrom 2 none, Cond.fieldLink RX0 18 "PledgedLoans$Books" "pledges" "[I", Cond.fieldLink RX0 21 "PledgedLoans$Books" "rest" "[I", Cond.fieldLink RX0 24 "PledgedLoans$Books" "part" "[I", Cond.fieldLink RX0 27 "PledgedLoans$Books" "paid" "[I", Cond.fieldLink RX0 30 "PledgedLoans$Books" "misses" "[I", Cond.fieldLink RX0 33 "PledgedLoans$Books" "settings" "[I", Cond.fieldLink RX0 40 "PledgedLoans$Books" "till" "I", Cond.fieldLink RX0 44 "PledgedLoans$Books" "surplus" "I", Cond.fieldLink RX0 47 "PledgedLoans$Books" "loansGiven" "I", Cond.fieldLink RX0 50 "PledgedLoans$Books" "loansFallenDue" "I", Cond.fieldLink RX0 53 "PledgedLoans$Books" "weeksEnded" "I", Cond.fieldLink RX0 59 "PledgedLoans$Books" "refused" "I", Cond.fieldLink RX0 62 "PledgedLoans$Books" "dividendsPaid" "I", Cond.methodLink RX0 36 yX0_copyRow, Cond.static yX0_copyRow, Cond.code yX0_copyRow cX0_copyRow 2 none]
def wsX2_pass_r3 : List Cond := [Cond.methodLink RX0 65 Lib.Math.min.name, Cond.static Lib.Math.min.name, Cond.initialized "java/lang/Math", Cond.code Lib.Math.min.name Lib.Math.min.code 2 (some .int), Cond.methodLink RX0 71 arraycopyName, Cond.native arraycopyName, Cond.static arraycopyName, Cond.initialized "java/lang/System", Cond.methodLink RX2 101 yX0_addDays, Cond.instanceMethod yX0_addDays, Cond.selects RX0 yX0_addDays yX0_addDays, Cond.code yX0_addDays cX0_addDays 3 (some .int)]
def wsX2_pass : List Cond := .code yX2_pass cX2_pass 2 (some .int) :: ((wsX2_pass_r1 ++ (wsX2_pass_r2 ++ wsX2_pass_r3)) ++ wsX20 ++ wsX00 ++ (vx_atS RX2 88 "java/lang/IllegalStateException" ["java/lang/RuntimeException", "java/lang/Exception"]).filter goodWord ++ (vx_atS RX2 130 "java/lang/IllegalArgumentException" ["java/lang/RuntimeException", "java/lang/Exception"]).filter goodWord)
def wsX2_dividend_r1 : List Cond := [Cond.fieldLink RX2 10 "PledgedLoans" "books" "LPledgedLoans$Books;", Cond.methodLink RX2 49 yX2_saveState, Cond.instanceMethod yX2_saveState, Cond.selects RX2 yX2_saveState yX2_saveState, Cond.initialized RX2, Cond.code yX2_saveState cX2_saveState 1 none, Cond.fieldLink RX2 143 "PledgedLoans" "savedStates" "I", Cond.fieldLink RX2 16 "PledgedLoans" "saved" "[LPledgedLoans$Books;", Cond.methodLink RX2 219 yX2_dropOldest, Cond.instanceMethod yX2_dropOldest, Cond.selects RX2 yX2_dropOldest yX2_dropOldest, Cond.code yX2_dropOldest cX2_dropOldest 3 none, Cond.methodLink RX2 134 yX0_copyFrom, Cond.instanceMethod yX0_copyFrom, Cond.selects RX0 yX0_copyFrom yX0_copyFrom, Cond.initialized RX0, Cond.code yX0_copyFrom cX0_copyFrom 2 none, Cond.fieldLink RX0 9 "PledgedLoans$Books" "shares" "[I", Cond.fieldLink RX0 15 "PledgedLoans$Books" "shareDays" "[I", Cond.fieldLink RX0 18 "PledgedLoans$Books" "pledges" "[I", Cond.fieldLink RX0 21 "PledgedLoans$Books" "rest" "[I", Cond.fieldLink RX0 24 "PledgedLoans$Books" "part" "[I", Cond.fieldLink RX0 27 "PledgedLoans$Books" "paid" "[I", Cond.fieldLink RX0 30 "PledgedLoans$Books" "misses" "[I"]
def wsX2_dividend_r2 : List Cond := [Cond.fieldLink RX0 33 "PledgedLoans$Books" "settings" "[I", Cond.fieldLink RX0 40 "PledgedLoans$Books" "till" "I", Cond.fieldLink RX0 44 "PledgedLoans$Books" "surplus" "I", Cond.fieldLink RX0 47 "PledgedLoans$Books" "loansGiven" "I", Cond.fieldLink RX0 50 "PledgedLoans$Books" "loansFallenDue" "I", Cond.fieldLink RX0 53 "PledgedLoans$Books" "weeksEnded" "I", Cond.fieldLink RX0 56 "PledgedLoans$Books" "day" "I", Cond.fieldLink RX0 59 "PledgedLoans$Books" "refused" "I", Cond.fieldLink RX0 62 "PledgedLoans$Books" "dividendsPaid" "I", Cond.methodLink RX0 36 yX0_copyRow, Cond.static yX0_copyRow, Cond.code yX0_copyRow cX0_copyRow 2 none, Cond.methodLink RX0 65 Lib.Math.min.name, Cond.static Lib.Math.min.name, Cond.initialized "java/lang/Math", Cond.code Lib.Math.min.name Lib.Math.min.code 2 (some .int), Cond.methodLink RX0 71 arraycopyName, Cond.native arraycopyName, Cond.static arraycopyName, Cond.initialized "java/lang/System", Cond.methodLink RX2 105 yX0_shareOut, Cond.instanceMethod yX0_shareOut, Cond.selects RX0 yX0_shareOut yX0_shareOut, Cond.code yX0_shareOut cX0_shareOut 6 (some .int)]
def wsX2_dividend_r3 : List Cond := [Cond.methodLink RX0 133 yX0_allShareDays, Cond.instanceMethod yX0_allShareDays, Cond.selects RX0 yX0_allShareDays yX0_allShareDays, Cond.code yX0_allShareDays cX0_allShareDays 7 (some .long), Cond.methodLink RX0 137 yX0_dividendOf, Cond.instanceMethod yX0_dividendOf, Cond.selects RX0 yX0_dividendOf yX0_dividendOf, Cond.code yX0_dividendOf cX0_dividendOf 4 (some .int)]
def wsX2_dividend : List Cond := .code yX2_dividend cX2_dividend 1 (some .int) :: ((wsX2_dividend_r1 ++ (wsX2_dividend_r2 ++ wsX2_dividend_r3)) ++ wsX20 ++ wsX00)
def wsX2_checkSetting : List Cond := .code yX2_checkSetting cX2_checkSetting 1 none :: ([.classLink RX2 208 "java/lang/IndexOutOfBoundsException", .initialized "java/lang/IndexOutOfBoundsException"] ++ (vx_atS RX2 212 "java/lang/IndexOutOfBoundsException" ["java/lang/RuntimeException", "java/lang/Exception"]).filter goodWord)
def wsX2_set_r1 : List Cond := [Cond.fieldLink RX2 10 "PledgedLoans" "books" "LPledgedLoans$Books;", Cond.fieldLink RX2 111 "PledgedLoans$Books" "settings" "[I", Cond.methodLink RX2 108 yX2_checkSetting, Cond.static yX2_checkSetting, Cond.initialized RX2, Cond.code yX2_checkSetting cX2_checkSetting 1 none, Cond.classLink RX2 208 "java/lang/IndexOutOfBoundsException", Cond.initialized "java/lang/IndexOutOfBoundsException", Cond.methodLink RX2 70 yX2_checkRange, Cond.static yX2_checkRange, Cond.code yX2_checkRange cX2_checkRange 3 none, Cond.classLink RX2 126 "java/lang/IllegalArgumentException", Cond.initialized "java/lang/IllegalArgumentException", Cond.methodLink RX2 49 yX2_saveState, Cond.instanceMethod yX2_saveState, Cond.selects RX2 yX2_saveState yX2_saveState, Cond.code yX2_saveState cX2_saveState 1 none, Cond.fieldLink RX2 143 "PledgedLoans" "savedStates" "I", Cond.fieldLink RX2 16 "PledgedLoans" "saved" "[LPledgedLoans$Books;", Cond.methodLink RX2 219 yX2_dropOldest, Cond.instanceMethod yX2_dropOldest, Cond.selects RX2 yX2_dropOldest yX2_dropOldest, Cond.code yX2_dropOldest cX2_dropOldest 3 none, Cond.methodLink RX2 134 yX0_copyFrom]
def wsX2_set_r2 : List Cond := [Cond.instanceMethod yX0_copyFrom, Cond.selects RX0 yX0_copyFrom yX0_copyFrom, Cond.initialized RX0, Cond.code yX0_copyFrom cX0_copyFrom 2 none, Cond.fieldLink RX0 9 "PledgedLoans$Books" "shares" "[I", Cond.fieldLink RX0 15 "PledgedLoans$Books" "shareDays" "[I", Cond.fieldLink RX0 18 "PledgedLoans$Books" "pledges" "[I", Cond.fieldLink RX0 21 "PledgedLoans$Books" "rest" "[I", Cond.fieldLink RX0 24 "PledgedLoans$Books" "part" "[I", Cond.fieldLink RX0 27 "PledgedLoans$Books" "paid" "[I", Cond.fieldLink RX0 30 "PledgedLoans$Books" "misses" "[I", Cond.fieldLink RX0 33 "PledgedLoans$Books" "settings" "[I", Cond.fieldLink RX0 40 "PledgedLoans$Books" "till" "I", Cond.fieldLink RX0 44 "PledgedLoans$Books" "surplus" "I", Cond.fieldLink RX0 47 "PledgedLoans$Books" "loansGiven" "I", Cond.fieldLink RX0 50 "PledgedLoans$Books" "loansFallenDue" "I", Cond.fieldLink RX0 53 "PledgedLoans$Books" "weeksEnded" "I", Cond.fieldLink RX0 56 "PledgedLoans$Books" "day" "I", Cond.fieldLink RX0 59 "PledgedLoans$Books" "refused" "I", Cond.fieldLink RX0 62 "PledgedLoans$Books" "dividendsPaid" "I", Cond.methodLink RX0 36 yX0_copyRow, Cond.static yX0_copyRow, Cond.code yX0_copyRow cX0_copyRow 2 none, Cond.methodLink RX0 65 Lib.Math.min.name]
def wsX2_set_r3 : List Cond := [Cond.static Lib.Math.min.name, Cond.initialized "java/lang/Math", Cond.code Lib.Math.min.name Lib.Math.min.code 2 (some .int), Cond.methodLink RX0 71 arraycopyName, Cond.native arraycopyName, Cond.static arraycopyName, Cond.initialized "java/lang/System"]
def wsX2_set : List Cond := .code yX2_set cX2_set 4 (some .int) :: ((wsX2_set_r1 ++ (wsX2_set_r2 ++ wsX2_set_r3)) ++ wsX20 ++ wsX00 ++ (vx_atS RX2 212 "java/lang/IndexOutOfBoundsException" ["java/lang/RuntimeException", "java/lang/Exception"]).filter goodWord ++ (vx_atS RX2 130 "java/lang/IllegalArgumentException" ["java/lang/RuntimeException", "java/lang/Exception"]).filter goodWord)
def wsX2_append : List Cond := .code yX2_append cX2_append 2 (some .int) :: ([.classLink RX2 84 "java/lang/IllegalStateException", .initialized "java/lang/IllegalStateException", .fieldLink RX2 114 "PledgedLoans" "bufferLength" "I", .fieldLink RX2 27 "PledgedLoans" "buffer" "[C", .methodLink RX2 70 yX2_checkRange, .static yX2_checkRange, .initialized RX2, .code yX2_checkRange cX2_checkRange 3 none, .classLink RX2 126 "java/lang/IllegalArgumentException", .initialized "java/lang/IllegalArgumentException"] ++ wsX20 ++ (vx_atS RX2 88 "java/lang/IllegalStateException" ["java/lang/RuntimeException", "java/lang/Exception"]).filter goodWord ++ (vx_atS RX2 130 "java/lang/IllegalArgumentException" ["java/lang/RuntimeException", "java/lang/Exception"]).filter goodWord)
def wsX2_clearBuffer : List Cond := .code yX2_clearBuffer cX2_clearBuffer 2 (some .int) :: ([.fieldLink RX2 114 "PledgedLoans" "bufferLength" "I"] ++ wsX20)
def wsX2_readToError_r1 : List Cond := [Cond.fieldLink RX2 34 "PledgedLoans" "reader" "LPledgedLoans$OrderReader;", Cond.fieldLink RX2 114 "PledgedLoans" "bufferLength" "I", Cond.fieldLink RX2 27 "PledgedLoans" "buffer" "[C", Cond.methodLink RX2 222 yX1_restart, Cond.instanceMethod yX1_restart, Cond.selects RX1 yX1_restart yX1_restart, Cond.initialized RX1, Cond.code yX1_restart cX1_restart 1 none, Cond.fieldLink RX1 11 "PledgedLoans$OrderReader" "stage" "I", Cond.fieldLink RX1 15 "PledgedLoans$OrderReader" "kind" "C", Cond.fieldLink RX1 19 "PledgedLoans$OrderReader" "amount" "I", Cond.fieldLink RX1 22 "PledgedLoans$OrderReader" "weeks" "I", Cond.methodLink RX2 225 yX1_take, Cond.instanceMethod yX1_take, Cond.selects RX1 yX1_take yX1_take, Cond.code yX1_take cX1_take 2 (some .boolean), Cond.methodLink RX1 25 yX1_takeEnd, Cond.instanceMethod yX1_takeEnd, Cond.selects RX1 yX1_takeEnd yX1_takeEnd, Cond.code yX1_takeEnd cX1_takeEnd 1 (some .boolean), Cond.methodLink RX1 49 yX1_isWhole, Cond.instanceMethod yX1_isWhole, Cond.selects RX1 yX1_isWhole yX1_isWhole, Cond.code yX1_isWhole cX1_isWhole 1 (some .boolean)]
def wsX2_readToError_r2 : List Cond := [Cond.methodLink RX1 52 yX1_restart, Cond.methodLink RX1 29 yX1_takeKind, Cond.instanceMethod yX1_takeKind, Cond.selects RX1 yX1_takeKind yX1_takeKind, Cond.code yX1_takeKind cX1_takeKind 2 (some .boolean), Cond.methodLink RX1 33 yX1_takeMember, Cond.instanceMethod yX1_takeMember, Cond.selects RX1 yX1_takeMember yX1_takeMember, Cond.code yX1_takeMember cX1_takeMember 2 (some .boolean), Cond.fieldLink RX1 58 "PledgedLoans$OrderReader" "member" "I", Cond.methodLink RX1 55 yX1_isMember, Cond.static yX1_isMember, Cond.code yX1_isMember cX1_isMember 1 (some .boolean), Cond.methodLink RX1 36 yX1_takeMark, Cond.instanceMethod yX1_takeMark, Cond.selects RX1 yX1_takeMark yX1_takeMark, Cond.code yX1_takeMark cX1_takeMark 4 (some .boolean), Cond.methodLink RX1 40 yX1_takeBorrower, Cond.instanceMethod yX1_takeBorrower, Cond.selects RX1 yX1_takeBorrower yX1_takeBorrower, Cond.code yX1_takeBorrower cX1_takeBorrower 2 (some .boolean), Cond.fieldLink RX1 61 "PledgedLoans$OrderReader" "borrower" "I", Cond.methodLink RX1 43 yX1_takeAmount, Cond.instanceMethod yX1_takeAmount]
def wsX2_readToError_r3 : List Cond := [Cond.selects RX1 yX1_takeAmount yX1_takeAmount, Cond.code yX1_takeAmount cX1_takeAmount 3 (some .boolean), Cond.methodLink RX1 64 yX1_longer, Cond.static yX1_longer, Cond.code yX1_longer cX1_longer 4 (some .int), Cond.methodLink RX1 46 yX1_takeWeeks, Cond.instanceMethod yX1_takeWeeks, Cond.selects RX1 yX1_takeWeeks yX1_takeWeeks, Cond.code yX1_takeWeeks cX1_takeWeeks 3 (some .boolean)]
def wsX2_readToError : List Cond := .code yX2_readToError cX2_readToError 2 (some .int) :: ((wsX2_readToError_r1 ++ (wsX2_readToError_r2 ++ wsX2_readToError_r3)) ++ wsX20 ++ wsX10)
def wsX2_firstError_r1 : List Cond := [Cond.methodLink RX2 120 yX2_readToError, Cond.instanceMethod yX2_readToError, Cond.selects RX2 yX2_readToError yX2_readToError, Cond.initialized RX2, Cond.code yX2_readToError cX2_readToError 2 (some .int), Cond.fieldLink RX2 34 "PledgedLoans" "reader" "LPledgedLoans$OrderReader;", Cond.fieldLink RX2 114 "PledgedLoans" "bufferLength" "I", Cond.fieldLink RX2 27 "PledgedLoans" "buffer" "[C", Cond.methodLink RX2 222 yX1_restart, Cond.instanceMethod yX1_restart, Cond.selects RX1 yX1_restart yX1_restart, Cond.initialized RX1, Cond.code yX1_restart cX1_restart 1 none, Cond.fieldLink RX1 11 "PledgedLoans$OrderReader" "stage" "I", Cond.fieldLink RX1 15 "PledgedLoans$OrderReader" "kind" "C", Cond.fieldLink RX1 19 "PledgedLoans$OrderReader" "amount" "I", Cond.fieldLink RX1 22 "PledgedLoans$OrderReader" "weeks" "I", Cond.methodLink RX2 225 yX1_take, Cond.instanceMethod yX1_take, Cond.selects RX1 yX1_take yX1_take, Cond.code yX1_take cX1_take 2 (some .boolean), Cond.methodLink RX1 25 yX1_takeEnd, Cond.instanceMethod yX1_takeEnd, Cond.selects RX1 yX1_takeEnd yX1_takeEnd]
def wsX2_firstError_r2 : List Cond := [Cond.code yX1_takeEnd cX1_takeEnd 1 (some .boolean), Cond.methodLink RX1 49 yX1_isWhole, Cond.instanceMethod yX1_isWhole, Cond.selects RX1 yX1_isWhole yX1_isWhole, Cond.code yX1_isWhole cX1_isWhole 1 (some .boolean), Cond.methodLink RX1 52 yX1_restart, Cond.methodLink RX1 29 yX1_takeKind, Cond.instanceMethod yX1_takeKind, Cond.selects RX1 yX1_takeKind yX1_takeKind, Cond.code yX1_takeKind cX1_takeKind 2 (some .boolean), Cond.methodLink RX1 33 yX1_takeMember, Cond.instanceMethod yX1_takeMember, Cond.selects RX1 yX1_takeMember yX1_takeMember, Cond.code yX1_takeMember cX1_takeMember 2 (some .boolean), Cond.fieldLink RX1 58 "PledgedLoans$OrderReader" "member" "I", Cond.methodLink RX1 55 yX1_isMember, Cond.static yX1_isMember, Cond.code yX1_isMember cX1_isMember 1 (some .boolean), Cond.methodLink RX1 36 yX1_takeMark, Cond.instanceMethod yX1_takeMark, Cond.selects RX1 yX1_takeMark yX1_takeMark, Cond.code yX1_takeMark cX1_takeMark 4 (some .boolean), Cond.methodLink RX1 40 yX1_takeBorrower, Cond.instanceMethod yX1_takeBorrower]
def wsX2_firstError_r3 : List Cond := [Cond.selects RX1 yX1_takeBorrower yX1_takeBorrower, Cond.code yX1_takeBorrower cX1_takeBorrower 2 (some .boolean), Cond.fieldLink RX1 61 "PledgedLoans$OrderReader" "borrower" "I", Cond.methodLink RX1 43 yX1_takeAmount, Cond.instanceMethod yX1_takeAmount, Cond.selects RX1 yX1_takeAmount yX1_takeAmount, Cond.code yX1_takeAmount cX1_takeAmount 3 (some .boolean), Cond.methodLink RX1 64 yX1_longer, Cond.static yX1_longer, Cond.code yX1_longer cX1_longer 4 (some .int), Cond.methodLink RX1 46 yX1_takeWeeks, Cond.instanceMethod yX1_takeWeeks, Cond.selects RX1 yX1_takeWeeks yX1_takeWeeks, Cond.code yX1_takeWeeks cX1_takeWeeks 3 (some .boolean)]
def wsX2_firstError : List Cond := .code yX2_firstError cX2_firstError 1 (some .int) :: ((wsX2_firstError_r1 ++ (wsX2_firstError_r2 ++ wsX2_firstError_r3)) ++ wsX20 ++ wsX10)
def wsX2_doOrder_r1 : List Cond := [Cond.fieldLink RX2 34 "PledgedLoans" "reader" "LPledgedLoans$OrderReader;", Cond.fieldLink RX2 232 "PledgedLoans$OrderReader" "kind" "C", Cond.fieldLink RX2 10 "PledgedLoans" "books" "LPledgedLoans$Books;", Cond.fieldLink RX2 236 "PledgedLoans$OrderReader" "member" "I", Cond.fieldLink RX2 239 "PledgedLoans$OrderReader" "amount" "I", Cond.fieldLink RX2 242 "PledgedLoans$OrderReader" "borrower" "I", Cond.fieldLink RX2 245 "PledgedLoans$OrderReader" "weeks" "I", Cond.methodLink RX2 52 yX0_takeIn, Cond.instanceMethod yX0_takeIn, Cond.selects RX0 yX0_takeIn yX0_takeIn, Cond.initialized RX0, Cond.code yX0_takeIn cX0_takeIn 4 (some .int), Cond.fieldLink RX0 9 "PledgedLoans$Books" "shares" "[I", Cond.constant RX0 100 (90000), Cond.fieldLink RX0 59 "PledgedLoans$Books" "refused" "I", Cond.fieldLink RX0 40 "PledgedLoans$Books" "till" "I", Cond.methodLink RX2 56 yX0_giveOut, Cond.instanceMethod yX0_giveOut, Cond.selects RX0 yX0_giveOut yX0_giveOut, Cond.code yX0_giveOut cX0_giveOut 3 (some .int), Cond.methodLink RX0 97 yX0_freeShares, Cond.instanceMethod yX0_freeShares, Cond.selects RX0 yX0_freeShares yX0_freeShares, Cond.code yX0_freeShares cX0_freeShares 2 (some .int)]
def wsX2_doOrder_r2 : List Cond := [Cond.fieldLink RX0 21 "PledgedLoans$Books" "rest" "[I", Cond.methodLink RX0 91 Lib.Math.max.name, Cond.static Lib.Math.max.name, Cond.initialized "java/lang/Math", Cond.code Lib.Math.max.name Lib.Math.max.code 2 (some .int), Cond.methodLink RX0 85 yX0_ownLeft, Cond.instanceMethod yX0_ownLeft, Cond.selects RX0 yX0_ownLeft yX0_ownLeft, Cond.code yX0_ownLeft cX0_ownLeft 2 (some .int), Cond.methodLink RX0 81 yX0_pledgedBy, Cond.instanceMethod yX0_pledgedBy, Cond.selects RX0 yX0_pledgedBy yX0_pledgedBy, Cond.code yX0_pledgedBy cX0_pledgedBy 5 (some .int), Cond.fieldLink RX0 18 "PledgedLoans$Books" "pledges" "[I", Cond.methodLink RX0 88 yX0_pledgedFor, Cond.instanceMethod yX0_pledgedFor, Cond.selects RX0 yX0_pledgedFor yX0_pledgedFor, Cond.code yX0_pledgedFor cX0_pledgedFor 4 (some .int), Cond.methodLink RX2 63 yX0_addPledge, Cond.instanceMethod yX0_addPledge, Cond.selects RX0 yX0_addPledge yX0_addPledge, Cond.code yX0_addPledge cX0_addPledge 5 (some .int), Cond.methodLink RX0 101 yX0_place, Cond.static yX0_place]
def wsX2_doOrder_r3 : List Cond := [Cond.code yX0_place cX0_place 2 (some .int), Cond.methodLink RX2 74 yX0_lend, Cond.instanceMethod yX0_lend, Cond.selects RX0 yX0_lend yX0_lend, Cond.code yX0_lend cX0_lend 6 (some .int), Cond.fieldLink RX0 44 "PledgedLoans$Books" "surplus" "I", Cond.fieldLink RX0 24 "PledgedLoans$Books" "part" "[I", Cond.fieldLink RX0 27 "PledgedLoans$Books" "paid" "[I", Cond.fieldLink RX0 30 "PledgedLoans$Books" "misses" "[I", Cond.fieldLink RX0 47 "PledgedLoans$Books" "loansGiven" "I", Cond.methodLink RX0 114 yX0_whyNoLoan, Cond.instanceMethod yX0_whyNoLoan, Cond.selects RX0 yX0_whyNoLoan yX0_whyNoLoan, Cond.code yX0_whyNoLoan cX0_whyNoLoan 3 (some .int), Cond.methodLink RX0 77 yX0_hasLoan, Cond.instanceMethod yX0_hasLoan, Cond.selects RX0 yX0_hasLoan yX0_hasLoan, Cond.code yX0_hasLoan cX0_hasLoan 2 (some .boolean), Cond.methodLink RX0 104 yX0_threefold, Cond.instanceMethod yX0_threefold, Cond.selects RX0 yX0_threefold yX0_threefold, Cond.code yX0_threefold cX0_threefold 2 (some .int), Cond.methodLink RX0 94 yX0_cover, Cond.instanceMethod yX0_cover]
def wsX2_doOrder_r4 : List Cond := [Cond.selects RX0 yX0_cover yX0_cover, Cond.code yX0_cover cX0_cover 2 (some .int), Cond.methodLink RX0 107 yX0_whyAbove, Cond.instanceMethod yX0_whyAbove, Cond.selects RX0 yX0_whyAbove yX0_whyAbove, Cond.code yX0_whyAbove cX0_whyAbove 4 (some .int), Cond.methodLink RX0 111 yX0_feeOf, Cond.instanceMethod yX0_feeOf, Cond.selects RX0 yX0_feeOf yX0_feeOf, Cond.code yX0_feeOf cX0_feeOf 2 (some .int), Cond.fieldLink RX0 33 "PledgedLoans$Books" "settings" "[I", Cond.methodLink RX2 77 yX0_takeBack, Cond.instanceMethod yX0_takeBack, Cond.selects RX0 yX0_takeBack yX0_takeBack, Cond.code yX0_takeBack cX0_takeBack 3 (some .int), Cond.methodLink RX2 80 yX0_canEndWeek, Cond.instanceMethod yX0_canEndWeek, Cond.selects RX0 yX0_canEndWeek yX0_canEndWeek, Cond.code yX0_canEndWeek cX0_canEndWeek 1 (some .boolean), Cond.fieldLink RX0 53 "PledgedLoans$Books" "weeksEnded" "I", Cond.methodLink RX2 91 yX0_endWeek, Cond.instanceMethod yX0_endWeek, Cond.selects RX0 yX0_endWeek yX0_endWeek, Cond.code yX0_endWeek cX0_endWeek 3 (some .int)]
def wsX2_doOrder_r5 : List Cond := [Cond.fieldLink RX0 50 "PledgedLoans$Books" "loansFallenDue" "I", Cond.methodLink RX0 124 yX0_endWeekOf, Cond.instanceMethod yX0_endWeekOf, Cond.selects RX0 yX0_endWeekOf yX0_endWeekOf, Cond.code yX0_endWeekOf cX0_endWeekOf 2 (some .boolean), Cond.methodLink RX0 127 yX0_takeDue, Cond.instanceMethod yX0_takeDue, Cond.selects RX0 yX0_takeDue yX0_takeDue, Cond.code yX0_takeDue cX0_takeDue 7 none, Cond.methodLink RX0 65 Lib.Math.min.name, Cond.static Lib.Math.min.name, Cond.code Lib.Math.min.name Lib.Math.min.code 2 (some .int)]
def wsX2_doOrder : List Cond := .code yX2_doOrder cX2_doOrder 1 (some .boolean) :: ((wsX2_doOrder_r1 ++ (wsX2_doOrder_r2 ++ (wsX2_doOrder_r3 ++ (wsX2_doOrder_r4 ++ wsX2_doOrder_r5)))) ++ wsX20 ++ wsX10 ++ wsX00)
def wsX2_doOrders_r1 : List Cond := [Cond.fieldLink RX2 34 "PledgedLoans" "reader" "LPledgedLoans$OrderReader;", Cond.fieldLink RX2 114 "PledgedLoans" "bufferLength" "I", Cond.fieldLink RX2 27 "PledgedLoans" "buffer" "[C", Cond.methodLink RX2 222 yX1_restart, Cond.instanceMethod yX1_restart, Cond.selects RX1 yX1_restart yX1_restart, Cond.initialized RX1, Cond.code yX1_restart cX1_restart 1 none, Cond.fieldLink RX1 11 "PledgedLoans$OrderReader" "stage" "I", Cond.fieldLink RX1 15 "PledgedLoans$OrderReader" "kind" "C", Cond.fieldLink RX1 19 "PledgedLoans$OrderReader" "amount" "I", Cond.fieldLink RX1 22 "PledgedLoans$OrderReader" "weeks" "I", Cond.methodLink RX2 229 yX2_doOrder, Cond.instanceMethod yX2_doOrder, Cond.selects RX2 yX2_doOrder yX2_doOrder, Cond.initialized RX2, Cond.code yX2_doOrder cX2_doOrder 1 (some .boolean), Cond.fieldLink RX2 232 "PledgedLoans$OrderReader" "kind" "C", Cond.fieldLink RX2 10 "PledgedLoans" "books" "LPledgedLoans$Books;", Cond.fieldLink RX2 236 "PledgedLoans$OrderReader" "member" "I", Cond.fieldLink RX2 239 "PledgedLoans$OrderReader" "amount" "I", Cond.fieldLink RX2 242 "PledgedLoans$OrderReader" "borrower" "I", Cond.fieldLink RX2 245 "PledgedLoans$OrderReader" "weeks" "I", Cond.methodLink RX2 52 yX0_takeIn]
def wsX2_doOrders_r2 : List Cond := [Cond.instanceMethod yX0_takeIn, Cond.selects RX0 yX0_takeIn yX0_takeIn, Cond.initialized RX0, Cond.code yX0_takeIn cX0_takeIn 4 (some .int), Cond.fieldLink RX0 9 "PledgedLoans$Books" "shares" "[I", Cond.constant RX0 100 (90000), Cond.fieldLink RX0 59 "PledgedLoans$Books" "refused" "I", Cond.fieldLink RX0 40 "PledgedLoans$Books" "till" "I", Cond.methodLink RX2 56 yX0_giveOut, Cond.instanceMethod yX0_giveOut, Cond.selects RX0 yX0_giveOut yX0_giveOut, Cond.code yX0_giveOut cX0_giveOut 3 (some .int), Cond.methodLink RX0 97 yX0_freeShares, Cond.instanceMethod yX0_freeShares, Cond.selects RX0 yX0_freeShares yX0_freeShares, Cond.code yX0_freeShares cX0_freeShares 2 (some .int), Cond.fieldLink RX0 21 "PledgedLoans$Books" "rest" "[I", Cond.methodLink RX0 91 Lib.Math.max.name, Cond.static Lib.Math.max.name, Cond.initialized "java/lang/Math", Cond.code Lib.Math.max.name Lib.Math.max.code 2 (some .int), Cond.methodLink RX0 85 yX0_ownLeft, Cond.instanceMethod yX0_ownLeft, Cond.selects RX0 yX0_ownLeft yX0_ownLeft]
def wsX2_doOrders_r3 : List Cond := [Cond.code yX0_ownLeft cX0_ownLeft 2 (some .int), Cond.methodLink RX0 81 yX0_pledgedBy, Cond.instanceMethod yX0_pledgedBy, Cond.selects RX0 yX0_pledgedBy yX0_pledgedBy, Cond.code yX0_pledgedBy cX0_pledgedBy 5 (some .int), Cond.fieldLink RX0 18 "PledgedLoans$Books" "pledges" "[I", Cond.methodLink RX0 88 yX0_pledgedFor, Cond.instanceMethod yX0_pledgedFor, Cond.selects RX0 yX0_pledgedFor yX0_pledgedFor, Cond.code yX0_pledgedFor cX0_pledgedFor 4 (some .int), Cond.methodLink RX2 63 yX0_addPledge, Cond.instanceMethod yX0_addPledge, Cond.selects RX0 yX0_addPledge yX0_addPledge, Cond.code yX0_addPledge cX0_addPledge 5 (some .int), Cond.methodLink RX0 101 yX0_place, Cond.static yX0_place, Cond.code yX0_place cX0_place 2 (some .int), Cond.methodLink RX2 74 yX0_lend, Cond.instanceMethod yX0_lend, Cond.selects RX0 yX0_lend yX0_lend, Cond.code yX0_lend cX0_lend 6 (some .int), Cond.fieldLink RX0 44 "PledgedLoans$Books" "surplus" "I", Cond.fieldLink RX0 24 "PledgedLoans$Books" "part" "[I", Cond.fieldLink RX0 27 "PledgedLoans$Books" "paid" "[I"]
def wsX2_doOrders_r4 : List Cond := [Cond.fieldLink RX0 30 "PledgedLoans$Books" "misses" "[I", Cond.fieldLink RX0 47 "PledgedLoans$Books" "loansGiven" "I", Cond.methodLink RX0 114 yX0_whyNoLoan, Cond.instanceMethod yX0_whyNoLoan, Cond.selects RX0 yX0_whyNoLoan yX0_whyNoLoan, Cond.code yX0_whyNoLoan cX0_whyNoLoan 3 (some .int), Cond.methodLink RX0 77 yX0_hasLoan, Cond.instanceMethod yX0_hasLoan, Cond.selects RX0 yX0_hasLoan yX0_hasLoan, Cond.code yX0_hasLoan cX0_hasLoan 2 (some .boolean), Cond.methodLink RX0 104 yX0_threefold, Cond.instanceMethod yX0_threefold, Cond.selects RX0 yX0_threefold yX0_threefold, Cond.code yX0_threefold cX0_threefold 2 (some .int), Cond.methodLink RX0 94 yX0_cover, Cond.instanceMethod yX0_cover, Cond.selects RX0 yX0_cover yX0_cover, Cond.code yX0_cover cX0_cover 2 (some .int), Cond.methodLink RX0 107 yX0_whyAbove, Cond.instanceMethod yX0_whyAbove, Cond.selects RX0 yX0_whyAbove yX0_whyAbove, Cond.code yX0_whyAbove cX0_whyAbove 4 (some .int), Cond.methodLink RX0 111 yX0_feeOf, Cond.instanceMethod yX0_feeOf]
def wsX2_doOrders_r5 : List Cond := [Cond.selects RX0 yX0_feeOf yX0_feeOf, Cond.code yX0_feeOf cX0_feeOf 2 (some .int), Cond.fieldLink RX0 33 "PledgedLoans$Books" "settings" "[I", Cond.methodLink RX2 77 yX0_takeBack, Cond.instanceMethod yX0_takeBack, Cond.selects RX0 yX0_takeBack yX0_takeBack, Cond.code yX0_takeBack cX0_takeBack 3 (some .int), Cond.methodLink RX2 80 yX0_canEndWeek, Cond.instanceMethod yX0_canEndWeek, Cond.selects RX0 yX0_canEndWeek yX0_canEndWeek, Cond.code yX0_canEndWeek cX0_canEndWeek 1 (some .boolean), Cond.fieldLink RX0 53 "PledgedLoans$Books" "weeksEnded" "I", Cond.methodLink RX2 91 yX0_endWeek, Cond.instanceMethod yX0_endWeek, Cond.selects RX0 yX0_endWeek yX0_endWeek, Cond.code yX0_endWeek cX0_endWeek 3 (some .int), Cond.fieldLink RX0 50 "PledgedLoans$Books" "loansFallenDue" "I", Cond.methodLink RX0 124 yX0_endWeekOf, Cond.instanceMethod yX0_endWeekOf, Cond.selects RX0 yX0_endWeekOf yX0_endWeekOf, Cond.code yX0_endWeekOf cX0_endWeekOf 2 (some .boolean), Cond.methodLink RX0 127 yX0_takeDue, Cond.instanceMethod yX0_takeDue, Cond.selects RX0 yX0_takeDue yX0_takeDue]
def wsX2_doOrders_r6 : List Cond := [Cond.code yX0_takeDue cX0_takeDue 7 none, Cond.methodLink RX0 65 Lib.Math.min.name, Cond.static Lib.Math.min.name, Cond.code Lib.Math.min.name Lib.Math.min.code 2 (some .int), Cond.methodLink RX2 225 yX1_take, Cond.instanceMethod yX1_take, Cond.selects RX1 yX1_take yX1_take, Cond.code yX1_take cX1_take 2 (some .boolean), Cond.methodLink RX1 25 yX1_takeEnd, Cond.instanceMethod yX1_takeEnd, Cond.selects RX1 yX1_takeEnd yX1_takeEnd, Cond.code yX1_takeEnd cX1_takeEnd 1 (some .boolean), Cond.methodLink RX1 49 yX1_isWhole, Cond.instanceMethod yX1_isWhole, Cond.selects RX1 yX1_isWhole yX1_isWhole, Cond.code yX1_isWhole cX1_isWhole 1 (some .boolean), Cond.methodLink RX1 52 yX1_restart, Cond.methodLink RX1 29 yX1_takeKind, Cond.instanceMethod yX1_takeKind, Cond.selects RX1 yX1_takeKind yX1_takeKind, Cond.code yX1_takeKind cX1_takeKind 2 (some .boolean), Cond.methodLink RX1 33 yX1_takeMember, Cond.instanceMethod yX1_takeMember, Cond.selects RX1 yX1_takeMember yX1_takeMember]
def wsX2_doOrders_r7 : List Cond := [Cond.code yX1_takeMember cX1_takeMember 2 (some .boolean), Cond.fieldLink RX1 58 "PledgedLoans$OrderReader" "member" "I", Cond.methodLink RX1 55 yX1_isMember, Cond.static yX1_isMember, Cond.code yX1_isMember cX1_isMember 1 (some .boolean), Cond.methodLink RX1 36 yX1_takeMark, Cond.instanceMethod yX1_takeMark, Cond.selects RX1 yX1_takeMark yX1_takeMark, Cond.code yX1_takeMark cX1_takeMark 4 (some .boolean), Cond.methodLink RX1 40 yX1_takeBorrower, Cond.instanceMethod yX1_takeBorrower, Cond.selects RX1 yX1_takeBorrower yX1_takeBorrower, Cond.code yX1_takeBorrower cX1_takeBorrower 2 (some .boolean), Cond.fieldLink RX1 61 "PledgedLoans$OrderReader" "borrower" "I", Cond.methodLink RX1 43 yX1_takeAmount, Cond.instanceMethod yX1_takeAmount, Cond.selects RX1 yX1_takeAmount yX1_takeAmount, Cond.code yX1_takeAmount cX1_takeAmount 3 (some .boolean), Cond.methodLink RX1 64 yX1_longer, Cond.static yX1_longer, Cond.code yX1_longer cX1_longer 4 (some .int), Cond.methodLink RX1 46 yX1_takeWeeks, Cond.instanceMethod yX1_takeWeeks, Cond.selects RX1 yX1_takeWeeks yX1_takeWeeks]
def wsX2_doOrders_r8 : List Cond := [Cond.code yX1_takeWeeks cX1_takeWeeks 3 (some .boolean)]
def wsX2_doOrders : List Cond := .code yX2_doOrders cX2_doOrders 3 (some .int) :: ((wsX2_doOrders_r1 ++ (wsX2_doOrders_r2 ++ (wsX2_doOrders_r3 ++ (wsX2_doOrders_r4 ++ (wsX2_doOrders_r5 ++ (wsX2_doOrders_r6 ++ (wsX2_doOrders_r7 ++ wsX2_doOrders_r8))))))) ++ wsX20 ++ wsX10 ++ wsX00)
def wsX2_run_r1 : List Cond := [Cond.classLink RX2 126 "java/lang/IllegalArgumentException", Cond.initialized "java/lang/IllegalArgumentException", Cond.fieldLink RX2 114 "PledgedLoans" "bufferLength" "I", Cond.fieldLink RX2 34 "PledgedLoans" "reader" "LPledgedLoans$OrderReader;", Cond.methodLink RX2 120 yX2_readToError, Cond.instanceMethod yX2_readToError, Cond.selects RX2 yX2_readToError yX2_readToError, Cond.initialized RX2, Cond.code yX2_readToError cX2_readToError 2 (some .int), Cond.fieldLink RX2 27 "PledgedLoans" "buffer" "[C", Cond.methodLink RX2 222 yX1_restart, Cond.instanceMethod yX1_restart, Cond.selects RX1 yX1_restart yX1_restart, Cond.initialized RX1, Cond.code yX1_restart cX1_restart 1 none, Cond.fieldLink RX1 11 "PledgedLoans$OrderReader" "stage" "I", Cond.fieldLink RX1 15 "PledgedLoans$OrderReader" "kind" "C", Cond.fieldLink RX1 19 "PledgedLoans$OrderReader" "amount" "I", Cond.fieldLink RX1 22 "PledgedLoans$OrderReader" "weeks" "I", Cond.methodLink RX2 225 yX1_take, Cond.instanceMethod yX1_take, Cond.selects RX1 yX1_take yX1_take, Cond.code yX1_take cX1_take 2 (some .boolean), Cond.methodLink RX1 25 yX1_takeEnd]
def wsX2_run_r2 : List Cond := [Cond.instanceMethod yX1_takeEnd, Cond.selects RX1 yX1_takeEnd yX1_takeEnd, Cond.code yX1_takeEnd cX1_takeEnd 1 (some .boolean), Cond.methodLink RX1 49 yX1_isWhole, Cond.instanceMethod yX1_isWhole, Cond.selects RX1 yX1_isWhole yX1_isWhole, Cond.code yX1_isWhole cX1_isWhole 1 (some .boolean), Cond.methodLink RX1 52 yX1_restart, Cond.methodLink RX1 29 yX1_takeKind, Cond.instanceMethod yX1_takeKind, Cond.selects RX1 yX1_takeKind yX1_takeKind, Cond.code yX1_takeKind cX1_takeKind 2 (some .boolean), Cond.methodLink RX1 33 yX1_takeMember, Cond.instanceMethod yX1_takeMember, Cond.selects RX1 yX1_takeMember yX1_takeMember, Cond.code yX1_takeMember cX1_takeMember 2 (some .boolean), Cond.fieldLink RX1 58 "PledgedLoans$OrderReader" "member" "I", Cond.methodLink RX1 55 yX1_isMember, Cond.static yX1_isMember, Cond.code yX1_isMember cX1_isMember 1 (some .boolean), Cond.methodLink RX1 36 yX1_takeMark, Cond.instanceMethod yX1_takeMark, Cond.selects RX1 yX1_takeMark yX1_takeMark, Cond.code yX1_takeMark cX1_takeMark 4 (some .boolean)]
def wsX2_run_r3 : List Cond := [Cond.methodLink RX1 40 yX1_takeBorrower, Cond.instanceMethod yX1_takeBorrower, Cond.selects RX1 yX1_takeBorrower yX1_takeBorrower, Cond.code yX1_takeBorrower cX1_takeBorrower 2 (some .boolean), Cond.fieldLink RX1 61 "PledgedLoans$OrderReader" "borrower" "I", Cond.methodLink RX1 43 yX1_takeAmount, Cond.instanceMethod yX1_takeAmount, Cond.selects RX1 yX1_takeAmount yX1_takeAmount, Cond.code yX1_takeAmount cX1_takeAmount 3 (some .boolean), Cond.methodLink RX1 64 yX1_longer, Cond.static yX1_longer, Cond.code yX1_longer cX1_longer 4 (some .int), Cond.methodLink RX1 46 yX1_takeWeeks, Cond.instanceMethod yX1_takeWeeks, Cond.selects RX1 yX1_takeWeeks yX1_takeWeeks, Cond.code yX1_takeWeeks cX1_takeWeeks 3 (some .boolean), Cond.methodLink RX2 123 yX1_isWhole, Cond.methodLink RX2 49 yX2_saveState, Cond.instanceMethod yX2_saveState, Cond.selects RX2 yX2_saveState yX2_saveState, Cond.code yX2_saveState cX2_saveState 1 none, Cond.fieldLink RX2 143 "PledgedLoans" "savedStates" "I", Cond.fieldLink RX2 16 "PledgedLoans" "saved" "[LPledgedLoans$Books;", Cond.fieldLink RX2 10 "PledgedLoans" "books" "LPledgedLoans$Books;"]
def wsX2_run_r4 : List Cond := [Cond.methodLink RX2 219 yX2_dropOldest, Cond.instanceMethod yX2_dropOldest, Cond.selects RX2 yX2_dropOldest yX2_dropOldest, Cond.code yX2_dropOldest cX2_dropOldest 3 none, Cond.methodLink RX2 134 yX0_copyFrom, Cond.instanceMethod yX0_copyFrom, Cond.selects RX0 yX0_copyFrom yX0_copyFrom, Cond.initialized RX0, Cond.code yX0_copyFrom cX0_copyFrom 2 none, Cond.fieldLink RX0 9 "PledgedLoans$Books" "shares" "[I", Cond.fieldLink RX0 15 "PledgedLoans$Books" "shareDays" "[I", Cond.fieldLink RX0 18 "PledgedLoans$Books" "pledges" "[I", Cond.fieldLink RX0 21 "PledgedLoans$Books" "rest" "[I", Cond.fieldLink RX0 24 "PledgedLoans$Books" "part" "[I", Cond.fieldLink RX0 27 "PledgedLoans$Books" "paid" "[I", Cond.fieldLink RX0 30 "PledgedLoans$Books" "misses" "[I", Cond.fieldLink RX0 33 "PledgedLoans$Books" "settings" "[I", Cond.fieldLink RX0 40 "PledgedLoans$Books" "till" "I", Cond.fieldLink RX0 44 "PledgedLoans$Books" "surplus" "I", Cond.fieldLink RX0 47 "PledgedLoans$Books" "loansGiven" "I", Cond.fieldLink RX0 50 "PledgedLoans$Books" "loansFallenDue" "I", Cond.fieldLink RX0 53 "PledgedLoans$Books" "weeksEnded" "I", Cond.fieldLink RX0 56 "PledgedLoans$Books" "day" "I", Cond.fieldLink RX0 59 "PledgedLoans$Books" "refused" "I"]
def wsX2_run_r5 : List Cond := [Cond.fieldLink RX0 62 "PledgedLoans$Books" "dividendsPaid" "I", Cond.methodLink RX0 36 yX0_copyRow, Cond.static yX0_copyRow, Cond.code yX0_copyRow cX0_copyRow 2 none, Cond.methodLink RX0 65 Lib.Math.min.name, Cond.static Lib.Math.min.name, Cond.initialized "java/lang/Math", Cond.code Lib.Math.min.name Lib.Math.min.code 2 (some .int), Cond.methodLink RX0 71 arraycopyName, Cond.native arraycopyName, Cond.static arraycopyName, Cond.initialized "java/lang/System", Cond.methodLink RX2 131 yX2_doOrders, Cond.instanceMethod yX2_doOrders, Cond.selects RX2 yX2_doOrders yX2_doOrders, Cond.code yX2_doOrders cX2_doOrders 3 (some .int), Cond.methodLink RX2 229 yX2_doOrder, Cond.instanceMethod yX2_doOrder, Cond.selects RX2 yX2_doOrder yX2_doOrder, Cond.code yX2_doOrder cX2_doOrder 1 (some .boolean), Cond.fieldLink RX2 232 "PledgedLoans$OrderReader" "kind" "C", Cond.fieldLink RX2 236 "PledgedLoans$OrderReader" "member" "I", Cond.fieldLink RX2 239 "PledgedLoans$OrderReader" "amount" "I", Cond.fieldLink RX2 242 "PledgedLoans$OrderReader" "borrower" "I"]
def wsX2_run_r6 : List Cond := [Cond.fieldLink RX2 245 "PledgedLoans$OrderReader" "weeks" "I", Cond.methodLink RX2 52 yX0_takeIn, Cond.instanceMethod yX0_takeIn, Cond.selects RX0 yX0_takeIn yX0_takeIn, Cond.code yX0_takeIn cX0_takeIn 4 (some .int), Cond.constant RX0 100 (90000), Cond.methodLink RX2 56 yX0_giveOut, Cond.instanceMethod yX0_giveOut, Cond.selects RX0 yX0_giveOut yX0_giveOut, Cond.code yX0_giveOut cX0_giveOut 3 (some .int), Cond.methodLink RX0 97 yX0_freeShares, Cond.instanceMethod yX0_freeShares, Cond.selects RX0 yX0_freeShares yX0_freeShares, Cond.code yX0_freeShares cX0_freeShares 2 (some .int), Cond.methodLink RX0 91 Lib.Math.max.name, Cond.static Lib.Math.max.name, Cond.code Lib.Math.max.name Lib.Math.max.code 2 (some .int), Cond.methodLink RX0 85 yX0_ownLeft, Cond.instanceMethod yX0_ownLeft, Cond.selects RX0 yX0_ownLeft yX0_ownLeft, Cond.code yX0_ownLeft cX0_ownLeft 2 (some .int), Cond.methodLink RX0 81 yX0_pledgedBy, Cond.instanceMethod yX0_pledgedBy, Cond.selects RX0 yX0_pledgedBy yX0_pledgedBy]
def wsX2_run_r7 : List Cond := [Cond.code yX0_pledgedBy cX0_pledgedBy 5 (some .int), Cond.methodLink RX0 88 yX0_pledgedFor, Cond.instanceMethod yX0_pledgedFor, Cond.selects RX0 yX0_pledgedFor yX0_pledgedFor, Cond.code yX0_pledgedFor cX0_pledgedFor 4 (some .int), Cond.methodLink RX2 63 yX0_addPledge, Cond.instanceMethod yX0_addPledge, Cond.selects RX0 yX0_addPledge yX0_addPledge, Cond.code yX0_addPledge cX0_addPledge 5 (some .int), Cond.methodLink RX0 101 yX0_place, Cond.static yX0_place, Cond.code yX0_place cX0_place 2 (some .int), Cond.methodLink RX2 74 yX0_lend, Cond.instanceMethod yX0_lend, Cond.selects RX0 yX0_lend yX0_lend, Cond.code yX0_lend cX0_lend 6 (some .int), Cond.methodLink RX0 114 yX0_whyNoLoan, Cond.instanceMethod yX0_whyNoLoan, Cond.selects RX0 yX0_whyNoLoan yX0_whyNoLoan, Cond.code yX0_whyNoLoan cX0_whyNoLoan 3 (some .int), Cond.methodLink RX0 77 yX0_hasLoan, Cond.instanceMethod yX0_hasLoan, Cond.selects RX0 yX0_hasLoan yX0_hasLoan, Cond.code yX0_hasLoan cX0_hasLoan 2 (some .boolean)]
def wsX2_run_r8 : List Cond := [Cond.methodLink RX0 104 yX0_threefold, Cond.instanceMethod yX0_threefold, Cond.selects RX0 yX0_threefold yX0_threefold, Cond.code yX0_threefold cX0_threefold 2 (some .int), Cond.methodLink RX0 94 yX0_cover, Cond.instanceMethod yX0_cover, Cond.selects RX0 yX0_cover yX0_cover, Cond.code yX0_cover cX0_cover 2 (some .int), Cond.methodLink RX0 107 yX0_whyAbove, Cond.instanceMethod yX0_whyAbove, Cond.selects RX0 yX0_whyAbove yX0_whyAbove, Cond.code yX0_whyAbove cX0_whyAbove 4 (some .int), Cond.methodLink RX0 111 yX0_feeOf, Cond.instanceMethod yX0_feeOf, Cond.selects RX0 yX0_feeOf yX0_feeOf, Cond.code yX0_feeOf cX0_feeOf 2 (some .int), Cond.methodLink RX2 77 yX0_takeBack, Cond.instanceMethod yX0_takeBack, Cond.selects RX0 yX0_takeBack yX0_takeBack, Cond.code yX0_takeBack cX0_takeBack 3 (some .int), Cond.methodLink RX2 80 yX0_canEndWeek, Cond.instanceMethod yX0_canEndWeek, Cond.selects RX0 yX0_canEndWeek yX0_canEndWeek, Cond.code yX0_canEndWeek cX0_canEndWeek 1 (some .boolean)]
def wsX2_run_r9 : List Cond := [Cond.methodLink RX2 91 yX0_endWeek, Cond.instanceMethod yX0_endWeek, Cond.selects RX0 yX0_endWeek yX0_endWeek, Cond.code yX0_endWeek cX0_endWeek 3 (some .int), Cond.methodLink RX0 124 yX0_endWeekOf, Cond.instanceMethod yX0_endWeekOf, Cond.selects RX0 yX0_endWeekOf yX0_endWeekOf, Cond.code yX0_endWeekOf cX0_endWeekOf 2 (some .boolean), Cond.methodLink RX0 127 yX0_takeDue, Cond.instanceMethod yX0_takeDue, Cond.selects RX0 yX0_takeDue yX0_takeDue, Cond.code yX0_takeDue cX0_takeDue 7 none]
def wsX2_run : List Cond := .code yX2_run cX2_run 2 (some .int) :: ((wsX2_run_r1 ++ (wsX2_run_r2 ++ (wsX2_run_r3 ++ (wsX2_run_r4 ++ (wsX2_run_r5 ++ (wsX2_run_r6 ++ (wsX2_run_r7 ++ (wsX2_run_r8 ++ wsX2_run_r9)))))))) ++ wsX20 ++ wsX10 ++ wsX00 ++ (vx_atS RX2 130 "java/lang/IllegalArgumentException" ["java/lang/RuntimeException", "java/lang/Exception"]).filter goodWord)
def wsX2_keep_r1 : List Cond := [Cond.fieldLink RX2 20 "PledgedLoans" "slots" "[LPledgedLoans$Books;", Cond.fieldLink RX2 10 "PledgedLoans" "books" "LPledgedLoans$Books;", Cond.fieldLink RX2 23 "PledgedLoans" "slotFilled" "[Z", Cond.methodLink RX2 70 yX2_checkRange, Cond.static yX2_checkRange, Cond.initialized RX2, Cond.code yX2_checkRange cX2_checkRange 3 none, Cond.classLink RX2 126 "java/lang/IllegalArgumentException", Cond.initialized "java/lang/IllegalArgumentException", Cond.methodLink RX2 134 yX0_copyFrom, Cond.instanceMethod yX0_copyFrom, Cond.selects RX0 yX0_copyFrom yX0_copyFrom, Cond.initialized RX0, Cond.code yX0_copyFrom cX0_copyFrom 2 none, Cond.fieldLink RX0 9 "PledgedLoans$Books" "shares" "[I", Cond.fieldLink RX0 15 "PledgedLoans$Books" "shareDays" "[I", Cond.fieldLink RX0 18 "PledgedLoans$Books" "pledges" "[I", Cond.fieldLink RX0 21 "PledgedLoans$Books" "rest" "[I", Cond.fieldLink RX0 24 "PledgedLoans$Books" "part" "[I", Cond.fieldLink RX0 27 "PledgedLoans$Books" "paid" "[I", Cond.fieldLink RX0 30 "PledgedLoans$Books" "misses" "[I", Cond.fieldLink RX0 33 "PledgedLoans$Books" "settings" "[I", Cond.fieldLink RX0 40 "PledgedLoans$Books" "till" "I", Cond.fieldLink RX0 44 "PledgedLoans$Books" "surplus" "I"]
def wsX2_keep_r2 : List Cond := [Cond.fieldLink RX0 47 "PledgedLoans$Books" "loansGiven" "I", Cond.fieldLink RX0 50 "PledgedLoans$Books" "loansFallenDue" "I", Cond.fieldLink RX0 53 "PledgedLoans$Books" "weeksEnded" "I", Cond.fieldLink RX0 56 "PledgedLoans$Books" "day" "I", Cond.fieldLink RX0 59 "PledgedLoans$Books" "refused" "I", Cond.fieldLink RX0 62 "PledgedLoans$Books" "dividendsPaid" "I", Cond.methodLink RX0 36 yX0_copyRow, Cond.static yX0_copyRow, Cond.code yX0_copyRow cX0_copyRow 2 none, Cond.methodLink RX0 65 Lib.Math.min.name, Cond.static Lib.Math.min.name, Cond.initialized "java/lang/Math", Cond.code Lib.Math.min.name Lib.Math.min.code 2 (some .int), Cond.methodLink RX0 71 arraycopyName, Cond.native arraycopyName, Cond.static arraycopyName, Cond.initialized "java/lang/System", Cond.methodLink RX2 138 yX0_loans, Cond.instanceMethod yX0_loans, Cond.selects RX0 yX0_loans yX0_loans, Cond.code yX0_loans cX0_loans 3 (some .int), Cond.methodLink RX0 77 yX0_hasLoan, Cond.instanceMethod yX0_hasLoan, Cond.selects RX0 yX0_hasLoan yX0_hasLoan]
def wsX2_keep_r3 : List Cond := [Cond.code yX0_hasLoan cX0_hasLoan 2 (some .boolean)]
def wsX2_keep : List Cond := .code yX2_keep cX2_keep 2 (some .int) :: ((wsX2_keep_r1 ++ (wsX2_keep_r2 ++ wsX2_keep_r3)) ++ wsX20 ++ wsX00 ++ (vx_atS RX2 130 "java/lang/IllegalArgumentException" ["java/lang/RuntimeException", "java/lang/Exception"]).filter goodWord)
def wsX2_goBack_r1 : List Cond := [Cond.classLink RX2 84 "java/lang/IllegalStateException", Cond.initialized "java/lang/IllegalStateException", Cond.fieldLink RX2 23 "PledgedLoans" "slotFilled" "[Z", Cond.fieldLink RX2 10 "PledgedLoans" "books" "LPledgedLoans$Books;", Cond.fieldLink RX2 20 "PledgedLoans" "slots" "[LPledgedLoans$Books;", Cond.methodLink RX2 70 yX2_checkRange, Cond.static yX2_checkRange, Cond.initialized RX2, Cond.code yX2_checkRange cX2_checkRange 3 none, Cond.classLink RX2 126 "java/lang/IllegalArgumentException", Cond.initialized "java/lang/IllegalArgumentException", Cond.methodLink RX2 49 yX2_saveState, Cond.instanceMethod yX2_saveState, Cond.selects RX2 yX2_saveState yX2_saveState, Cond.code yX2_saveState cX2_saveState 1 none, Cond.fieldLink RX2 143 "PledgedLoans" "savedStates" "I", Cond.fieldLink RX2 16 "PledgedLoans" "saved" "[LPledgedLoans$Books;", Cond.methodLink RX2 219 yX2_dropOldest, Cond.instanceMethod yX2_dropOldest, Cond.selects RX2 yX2_dropOldest yX2_dropOldest, Cond.code yX2_dropOldest cX2_dropOldest 3 none, Cond.methodLink RX2 134 yX0_copyFrom, Cond.instanceMethod yX0_copyFrom, Cond.selects RX0 yX0_copyFrom yX0_copyFrom]
def wsX2_goBack_r2 : List Cond := [Cond.initialized RX0, Cond.code yX0_copyFrom cX0_copyFrom 2 none, Cond.fieldLink RX0 9 "PledgedLoans$Books" "shares" "[I", Cond.fieldLink RX0 15 "PledgedLoans$Books" "shareDays" "[I", Cond.fieldLink RX0 18 "PledgedLoans$Books" "pledges" "[I", Cond.fieldLink RX0 21 "PledgedLoans$Books" "rest" "[I", Cond.fieldLink RX0 24 "PledgedLoans$Books" "part" "[I", Cond.fieldLink RX0 27 "PledgedLoans$Books" "paid" "[I", Cond.fieldLink RX0 30 "PledgedLoans$Books" "misses" "[I", Cond.fieldLink RX0 33 "PledgedLoans$Books" "settings" "[I", Cond.fieldLink RX0 40 "PledgedLoans$Books" "till" "I", Cond.fieldLink RX0 44 "PledgedLoans$Books" "surplus" "I", Cond.fieldLink RX0 47 "PledgedLoans$Books" "loansGiven" "I", Cond.fieldLink RX0 50 "PledgedLoans$Books" "loansFallenDue" "I", Cond.fieldLink RX0 53 "PledgedLoans$Books" "weeksEnded" "I", Cond.fieldLink RX0 56 "PledgedLoans$Books" "day" "I", Cond.fieldLink RX0 59 "PledgedLoans$Books" "refused" "I", Cond.fieldLink RX0 62 "PledgedLoans$Books" "dividendsPaid" "I", Cond.methodLink RX0 36 yX0_copyRow, Cond.static yX0_copyRow, Cond.code yX0_copyRow cX0_copyRow 2 none, Cond.methodLink RX0 65 Lib.Math.min.name, Cond.static Lib.Math.min.name, Cond.initialized "java/lang/Math"]
def wsX2_goBack_r3 : List Cond := [Cond.code Lib.Math.min.name Lib.Math.min.code 2 (some .int), Cond.methodLink RX0 71 arraycopyName, Cond.native arraycopyName, Cond.static arraycopyName, Cond.initialized "java/lang/System", Cond.methodLink RX2 138 yX0_loans, Cond.instanceMethod yX0_loans, Cond.selects RX0 yX0_loans yX0_loans, Cond.code yX0_loans cX0_loans 3 (some .int), Cond.methodLink RX0 77 yX0_hasLoan, Cond.instanceMethod yX0_hasLoan, Cond.selects RX0 yX0_hasLoan yX0_hasLoan, Cond.code yX0_hasLoan cX0_hasLoan 2 (some .boolean)]
def wsX2_goBack : List Cond := .code yX2_goBack cX2_goBack 2 (some .int) :: ((wsX2_goBack_r1 ++ (wsX2_goBack_r2 ++ wsX2_goBack_r3)) ++ wsX20 ++ wsX00 ++ (vx_atS RX2 88 "java/lang/IllegalStateException" ["java/lang/RuntimeException", "java/lang/Exception"]).filter goodWord ++ (vx_atS RX2 130 "java/lang/IllegalArgumentException" ["java/lang/RuntimeException", "java/lang/Exception"]).filter goodWord)
def wsX2_undo_r1 : List Cond := [Cond.classLink RX2 84 "java/lang/IllegalStateException", Cond.initialized "java/lang/IllegalStateException", Cond.fieldLink RX2 143 "PledgedLoans" "savedStates" "I", Cond.fieldLink RX2 10 "PledgedLoans" "books" "LPledgedLoans$Books;", Cond.fieldLink RX2 16 "PledgedLoans" "saved" "[LPledgedLoans$Books;", Cond.methodLink RX2 134 yX0_copyFrom, Cond.instanceMethod yX0_copyFrom, Cond.selects RX0 yX0_copyFrom yX0_copyFrom, Cond.initialized RX0, Cond.code yX0_copyFrom cX0_copyFrom 2 none, Cond.fieldLink RX0 9 "PledgedLoans$Books" "shares" "[I", Cond.fieldLink RX0 15 "PledgedLoans$Books" "shareDays" "[I", Cond.fieldLink RX0 18 "PledgedLoans$Books" "pledges" "[I", Cond.fieldLink RX0 21 "PledgedLoans$Books" "rest" "[I", Cond.fieldLink RX0 24 "PledgedLoans$Books" "part" "[I", Cond.fieldLink RX0 27 "PledgedLoans$Books" "paid" "[I", Cond.fieldLink RX0 30 "PledgedLoans$Books" "misses" "[I", Cond.fieldLink RX0 33 "PledgedLoans$Books" "settings" "[I", Cond.fieldLink RX0 40 "PledgedLoans$Books" "till" "I", Cond.fieldLink RX0 44 "PledgedLoans$Books" "surplus" "I", Cond.fieldLink RX0 47 "PledgedLoans$Books" "loansGiven" "I", Cond.fieldLink RX0 50 "PledgedLoans$Books" "loansFallenDue" "I", Cond.fieldLink RX0 53 "PledgedLoans$Books" "weeksEnded" "I", Cond.fieldLink RX0 56 "PledgedLoans$Books" "day" "I"]
def wsX2_undo_r2 : List Cond := [Cond.fieldLink RX0 59 "PledgedLoans$Books" "refused" "I", Cond.fieldLink RX0 62 "PledgedLoans$Books" "dividendsPaid" "I", Cond.methodLink RX0 36 yX0_copyRow, Cond.static yX0_copyRow, Cond.code yX0_copyRow cX0_copyRow 2 none, Cond.methodLink RX0 65 Lib.Math.min.name, Cond.static Lib.Math.min.name, Cond.initialized "java/lang/Math", Cond.code Lib.Math.min.name Lib.Math.min.code 2 (some .int), Cond.methodLink RX0 71 arraycopyName, Cond.native arraycopyName, Cond.static arraycopyName, Cond.initialized "java/lang/System"]
def wsX2_undo : List Cond := .code yX2_undo cX2_undo 1 (some .int) :: ((wsX2_undo_r1 ++ wsX2_undo_r2) ++ wsX20 ++ wsX00 ++ (vx_atS RX2 88 "java/lang/IllegalStateException" ["java/lang/RuntimeException", "java/lang/Exception"]).filter goodWord)
def wsX2_memberOf_r1 : List Cond := [Cond.fieldLink RX2 10 "PledgedLoans" "books" "LPledgedLoans$Books;", Cond.methodLink RX2 42 yX2_checkMember, Cond.static yX2_checkMember, Cond.initialized RX2, Cond.code yX2_checkMember cX2_checkMember 1 none, Cond.classLink RX2 208 "java/lang/IndexOutOfBoundsException", Cond.initialized "java/lang/IndexOutOfBoundsException", Cond.methodLink RX2 70 yX2_checkRange, Cond.static yX2_checkRange, Cond.code yX2_checkRange cX2_checkRange 3 none, Cond.classLink RX2 126 "java/lang/IllegalArgumentException", Cond.initialized "java/lang/IllegalArgumentException", Cond.methodLink RX2 148 yX0_property, Cond.instanceMethod yX0_property, Cond.selects RX0 yX0_property yX0_property, Cond.initialized RX0, Cond.code yX0_property cX0_property 3 (some .int), Cond.fieldLink RX0 9 "PledgedLoans$Books" "shares" "[I", Cond.fieldLink RX0 15 "PledgedLoans$Books" "shareDays" "[I", Cond.fieldLink RX0 21 "PledgedLoans$Books" "rest" "[I", Cond.fieldLink RX0 24 "PledgedLoans$Books" "part" "[I", Cond.fieldLink RX0 27 "PledgedLoans$Books" "paid" "[I", Cond.fieldLink RX0 30 "PledgedLoans$Books" "misses" "[I", Cond.methodLink RX0 81 yX0_pledgedBy]
def wsX2_memberOf_r2 : List Cond := [Cond.instanceMethod yX0_pledgedBy, Cond.selects RX0 yX0_pledgedBy yX0_pledgedBy, Cond.code yX0_pledgedBy cX0_pledgedBy 5 (some .int), Cond.fieldLink RX0 18 "PledgedLoans$Books" "pledges" "[I", Cond.methodLink RX0 88 yX0_pledgedFor, Cond.instanceMethod yX0_pledgedFor, Cond.selects RX0 yX0_pledgedFor yX0_pledgedFor, Cond.code yX0_pledgedFor cX0_pledgedFor 4 (some .int), Cond.methodLink RX0 94 yX0_cover, Cond.instanceMethod yX0_cover, Cond.selects RX0 yX0_cover yX0_cover, Cond.code yX0_cover cX0_cover 2 (some .int), Cond.methodLink RX0 85 yX0_ownLeft, Cond.instanceMethod yX0_ownLeft, Cond.selects RX0 yX0_ownLeft yX0_ownLeft, Cond.code yX0_ownLeft cX0_ownLeft 2 (some .int), Cond.methodLink RX0 97 yX0_freeShares, Cond.instanceMethod yX0_freeShares, Cond.selects RX0 yX0_freeShares yX0_freeShares, Cond.code yX0_freeShares cX0_freeShares 2 (some .int), Cond.methodLink RX0 91 Lib.Math.max.name, Cond.static Lib.Math.max.name, Cond.initialized "java/lang/Math", Cond.code Lib.Math.max.name Lib.Math.max.code 2 (some .int)]
def wsX2_memberOf_r3 : List Cond := [Cond.methodLink RX0 77 yX0_hasLoan, Cond.instanceMethod yX0_hasLoan, Cond.selects RX0 yX0_hasLoan yX0_hasLoan, Cond.code yX0_hasLoan cX0_hasLoan 2 (some .boolean)]
def wsX2_memberOf : List Cond := .code yX2_memberOf cX2_memberOf 3 (some .int) :: ((wsX2_memberOf_r1 ++ (wsX2_memberOf_r2 ++ wsX2_memberOf_r3)) ++ wsX20 ++ wsX00 ++ (vx_atS RX2 212 "java/lang/IndexOutOfBoundsException" ["java/lang/RuntimeException", "java/lang/Exception"]).filter goodWord ++ (vx_atS RX2 130 "java/lang/IllegalArgumentException" ["java/lang/RuntimeException", "java/lang/Exception"]).filter goodWord)
def wsX2_pledged : List Cond := .code yX2_pledged cX2_pledged 3 (some .int) :: ([.fieldLink RX2 10 "PledgedLoans" "books" "LPledgedLoans$Books;", .fieldLink RX2 151 "PledgedLoans$Books" "pledges" "[I", .methodLink RX2 42 yX2_checkMember, .static yX2_checkMember, .initialized RX2, .code yX2_checkMember cX2_checkMember 1 none, .classLink RX2 208 "java/lang/IndexOutOfBoundsException", .initialized "java/lang/IndexOutOfBoundsException", .methodLink RX2 154 yX0_place, .static yX0_place, .initialized RX0, .code yX0_place cX0_place 2 (some .int)] ++ wsX20 ++ wsX00 ++ (vx_atS RX2 212 "java/lang/IndexOutOfBoundsException" ["java/lang/RuntimeException", "java/lang/Exception"]).filter goodWord)
def wsX2_number_r1 : List Cond := [Cond.fieldLink RX2 10 "PledgedLoans" "books" "LPledgedLoans$Books;", Cond.fieldLink RX2 248 "PledgedLoans$Books" "till" "I", Cond.fieldLink RX2 251 "PledgedLoans$Books" "surplus" "I", Cond.fieldLink RX2 260 "PledgedLoans$Books" "loansGiven" "I", Cond.fieldLink RX2 263 "PledgedLoans$Books" "loansFallenDue" "I", Cond.fieldLink RX2 266 "PledgedLoans$Books" "weeksEnded" "I", Cond.fieldLink RX2 269 "PledgedLoans$Books" "day" "I", Cond.fieldLink RX2 272 "PledgedLoans$Books" "refused" "I", Cond.fieldLink RX2 275 "PledgedLoans$Books" "dividendsPaid" "I", Cond.fieldLink RX2 143 "PledgedLoans" "savedStates" "I", Cond.methodLink RX2 254 yX0_allShares, Cond.instanceMethod yX0_allShares, Cond.selects RX0 yX0_allShares yX0_allShares, Cond.initialized RX0, Cond.code yX0_allShares cX0_allShares 6 (some .int), Cond.fieldLink RX0 9 "PledgedLoans$Books" "shares" "[I", Cond.methodLink RX2 257 yX0_allRests, Cond.instanceMethod yX0_allRests, Cond.selects RX0 yX0_allRests yX0_allRests, Cond.code yX0_allRests cX0_allRests 6 (some .int), Cond.fieldLink RX0 21 "PledgedLoans$Books" "rest" "[I", Cond.methodLink RX2 138 yX0_loans, Cond.instanceMethod yX0_loans, Cond.selects RX0 yX0_loans yX0_loans]
def wsX2_number_r2 : List Cond := [Cond.code yX0_loans cX0_loans 3 (some .int), Cond.methodLink RX0 77 yX0_hasLoan, Cond.instanceMethod yX0_hasLoan, Cond.selects RX0 yX0_hasLoan yX0_hasLoan, Cond.code yX0_hasLoan cX0_hasLoan 2 (some .boolean)]
def wsX2_number : List Cond := .code yX2_number cX2_number 2 (some .int) :: ((wsX2_number_r1 ++ wsX2_number_r2) ++ wsX20 ++ wsX00)
def wsX2_count_r1 : List Cond := [Cond.methodLink RX2 70 yX2_checkRange, Cond.static yX2_checkRange, Cond.initialized RX2, Cond.code yX2_checkRange cX2_checkRange 3 none, Cond.classLink RX2 126 "java/lang/IllegalArgumentException", Cond.initialized "java/lang/IllegalArgumentException", Cond.methodLink RX2 157 yX2_number, Cond.instanceMethod yX2_number, Cond.selects RX2 yX2_number yX2_number, Cond.code yX2_number cX2_number 2 (some .int), Cond.fieldLink RX2 10 "PledgedLoans" "books" "LPledgedLoans$Books;", Cond.fieldLink RX2 248 "PledgedLoans$Books" "till" "I", Cond.fieldLink RX2 251 "PledgedLoans$Books" "surplus" "I", Cond.fieldLink RX2 260 "PledgedLoans$Books" "loansGiven" "I", Cond.fieldLink RX2 263 "PledgedLoans$Books" "loansFallenDue" "I", Cond.fieldLink RX2 266 "PledgedLoans$Books" "weeksEnded" "I", Cond.fieldLink RX2 269 "PledgedLoans$Books" "day" "I", Cond.fieldLink RX2 272 "PledgedLoans$Books" "refused" "I", Cond.fieldLink RX2 275 "PledgedLoans$Books" "dividendsPaid" "I", Cond.fieldLink RX2 143 "PledgedLoans" "savedStates" "I", Cond.methodLink RX2 254 yX0_allShares, Cond.instanceMethod yX0_allShares, Cond.selects RX0 yX0_allShares yX0_allShares, Cond.initialized RX0]
def wsX2_count_r2 : List Cond := [Cond.code yX0_allShares cX0_allShares 6 (some .int), Cond.fieldLink RX0 9 "PledgedLoans$Books" "shares" "[I", Cond.methodLink RX2 257 yX0_allRests, Cond.instanceMethod yX0_allRests, Cond.selects RX0 yX0_allRests yX0_allRests, Cond.code yX0_allRests cX0_allRests 6 (some .int), Cond.fieldLink RX0 21 "PledgedLoans$Books" "rest" "[I", Cond.methodLink RX2 138 yX0_loans, Cond.instanceMethod yX0_loans, Cond.selects RX0 yX0_loans yX0_loans, Cond.code yX0_loans cX0_loans 3 (some .int), Cond.methodLink RX0 77 yX0_hasLoan, Cond.instanceMethod yX0_hasLoan, Cond.selects RX0 yX0_hasLoan yX0_hasLoan, Cond.code yX0_hasLoan cX0_hasLoan 2 (some .boolean)]
def wsX2_count : List Cond := .code yX2_count cX2_count 2 (some .int) :: ((wsX2_count_r1 ++ wsX2_count_r2) ++ wsX20 ++ wsX00 ++ (vx_atS RX2 130 "java/lang/IllegalArgumentException" ["java/lang/RuntimeException", "java/lang/Exception"]).filter goodWord)
def wsX2_setting : List Cond := .code yX2_setting cX2_setting 2 (some .int) :: ([.fieldLink RX2 10 "PledgedLoans" "books" "LPledgedLoans$Books;", .fieldLink RX2 111 "PledgedLoans$Books" "settings" "[I", .methodLink RX2 108 yX2_checkSetting, .static yX2_checkSetting, .initialized RX2, .code yX2_checkSetting cX2_checkSetting 1 none, .classLink RX2 208 "java/lang/IndexOutOfBoundsException", .initialized "java/lang/IndexOutOfBoundsException"] ++ wsX20 ++ wsX00 ++ (vx_atS RX2 212 "java/lang/IndexOutOfBoundsException" ["java/lang/RuntimeException", "java/lang/Exception"]).filter goodWord)
def wsX2_whyNot_r1 : List Cond := [Cond.fieldLink RX2 10 "PledgedLoans" "books" "LPledgedLoans$Books;", Cond.methodLink RX2 42 yX2_checkMember, Cond.static yX2_checkMember, Cond.initialized RX2, Cond.code yX2_checkMember cX2_checkMember 1 none, Cond.classLink RX2 208 "java/lang/IndexOutOfBoundsException", Cond.initialized "java/lang/IndexOutOfBoundsException", Cond.methodLink RX2 46 yX2_checkAmount, Cond.static yX2_checkAmount, Cond.code yX2_checkAmount cX2_checkAmount 1 none, Cond.methodLink RX2 70 yX2_checkRange, Cond.static yX2_checkRange, Cond.code yX2_checkRange cX2_checkRange 3 none, Cond.classLink RX2 126 "java/lang/IllegalArgumentException", Cond.initialized "java/lang/IllegalArgumentException", Cond.methodLink RX2 160 yX0_whyNoLoan, Cond.instanceMethod yX0_whyNoLoan, Cond.selects RX0 yX0_whyNoLoan yX0_whyNoLoan, Cond.initialized RX0, Cond.code yX0_whyNoLoan cX0_whyNoLoan 3 (some .int), Cond.methodLink RX0 77 yX0_hasLoan, Cond.instanceMethod yX0_hasLoan, Cond.selects RX0 yX0_hasLoan yX0_hasLoan, Cond.code yX0_hasLoan cX0_hasLoan 2 (some .boolean)]
def wsX2_whyNot_r2 : List Cond := [Cond.fieldLink RX0 21 "PledgedLoans$Books" "rest" "[I", Cond.methodLink RX0 104 yX0_threefold, Cond.instanceMethod yX0_threefold, Cond.selects RX0 yX0_threefold yX0_threefold, Cond.code yX0_threefold cX0_threefold 2 (some .int), Cond.fieldLink RX0 9 "PledgedLoans$Books" "shares" "[I", Cond.methodLink RX0 94 yX0_cover, Cond.instanceMethod yX0_cover, Cond.selects RX0 yX0_cover yX0_cover, Cond.code yX0_cover cX0_cover 2 (some .int), Cond.methodLink RX0 85 yX0_ownLeft, Cond.instanceMethod yX0_ownLeft, Cond.selects RX0 yX0_ownLeft yX0_ownLeft, Cond.code yX0_ownLeft cX0_ownLeft 2 (some .int), Cond.methodLink RX0 81 yX0_pledgedBy, Cond.instanceMethod yX0_pledgedBy, Cond.selects RX0 yX0_pledgedBy yX0_pledgedBy, Cond.code yX0_pledgedBy cX0_pledgedBy 5 (some .int), Cond.fieldLink RX0 18 "PledgedLoans$Books" "pledges" "[I", Cond.methodLink RX0 88 yX0_pledgedFor, Cond.instanceMethod yX0_pledgedFor, Cond.selects RX0 yX0_pledgedFor yX0_pledgedFor, Cond.code yX0_pledgedFor cX0_pledgedFor 4 (some .int), Cond.methodLink RX0 107 yX0_whyAbove]
def wsX2_whyNot_r3 : List Cond := [Cond.instanceMethod yX0_whyAbove, Cond.selects RX0 yX0_whyAbove yX0_whyAbove, Cond.code yX0_whyAbove cX0_whyAbove 4 (some .int), Cond.fieldLink RX0 40 "PledgedLoans$Books" "till" "I", Cond.methodLink RX0 111 yX0_feeOf, Cond.instanceMethod yX0_feeOf, Cond.selects RX0 yX0_feeOf yX0_feeOf, Cond.code yX0_feeOf cX0_feeOf 2 (some .int), Cond.fieldLink RX0 33 "PledgedLoans$Books" "settings" "[I"]
def wsX2_whyNot : List Cond := .code yX2_whyNot cX2_whyNot 3 (some .int) :: ((wsX2_whyNot_r1 ++ (wsX2_whyNot_r2 ++ wsX2_whyNot_r3)) ++ wsX20 ++ wsX00 ++ (vx_atS RX2 212 "java/lang/IndexOutOfBoundsException" ["java/lang/RuntimeException", "java/lang/Exception"]).filter goodWord ++ (vx_atS RX2 130 "java/lang/IllegalArgumentException" ["java/lang/RuntimeException", "java/lang/Exception"]).filter goodWord)
def wsX2_greatestByHalving_r1 : List Cond := [Cond.fieldLink RX2 10 "PledgedLoans" "books" "LPledgedLoans$Books;", Cond.methodLink RX2 160 yX0_whyNoLoan, Cond.instanceMethod yX0_whyNoLoan, Cond.selects RX0 yX0_whyNoLoan yX0_whyNoLoan, Cond.initialized RX0, Cond.code yX0_whyNoLoan cX0_whyNoLoan 3 (some .int), Cond.methodLink RX0 77 yX0_hasLoan, Cond.instanceMethod yX0_hasLoan, Cond.selects RX0 yX0_hasLoan yX0_hasLoan, Cond.code yX0_hasLoan cX0_hasLoan 2 (some .boolean), Cond.fieldLink RX0 21 "PledgedLoans$Books" "rest" "[I", Cond.methodLink RX0 104 yX0_threefold, Cond.instanceMethod yX0_threefold, Cond.selects RX0 yX0_threefold yX0_threefold, Cond.code yX0_threefold cX0_threefold 2 (some .int), Cond.fieldLink RX0 9 "PledgedLoans$Books" "shares" "[I", Cond.methodLink RX0 94 yX0_cover, Cond.instanceMethod yX0_cover, Cond.selects RX0 yX0_cover yX0_cover, Cond.code yX0_cover cX0_cover 2 (some .int), Cond.methodLink RX0 85 yX0_ownLeft, Cond.instanceMethod yX0_ownLeft, Cond.selects RX0 yX0_ownLeft yX0_ownLeft, Cond.code yX0_ownLeft cX0_ownLeft 2 (some .int)]
def wsX2_greatestByHalving_r2 : List Cond := [Cond.methodLink RX0 81 yX0_pledgedBy, Cond.instanceMethod yX0_pledgedBy, Cond.selects RX0 yX0_pledgedBy yX0_pledgedBy, Cond.code yX0_pledgedBy cX0_pledgedBy 5 (some .int), Cond.fieldLink RX0 18 "PledgedLoans$Books" "pledges" "[I", Cond.methodLink RX0 88 yX0_pledgedFor, Cond.instanceMethod yX0_pledgedFor, Cond.selects RX0 yX0_pledgedFor yX0_pledgedFor, Cond.code yX0_pledgedFor cX0_pledgedFor 4 (some .int), Cond.methodLink RX0 107 yX0_whyAbove, Cond.instanceMethod yX0_whyAbove, Cond.selects RX0 yX0_whyAbove yX0_whyAbove, Cond.code yX0_whyAbove cX0_whyAbove 4 (some .int), Cond.fieldLink RX0 40 "PledgedLoans$Books" "till" "I", Cond.methodLink RX0 111 yX0_feeOf, Cond.instanceMethod yX0_feeOf, Cond.selects RX0 yX0_feeOf yX0_feeOf, Cond.code yX0_feeOf cX0_feeOf 2 (some .int), Cond.fieldLink RX0 33 "PledgedLoans$Books" "settings" "[I"]
def wsX2_greatestByHalving : List Cond := .code yX2_greatestByHalving cX2_greatestByHalving 5 (some .int) :: ((wsX2_greatestByHalving_r1 ++ wsX2_greatestByHalving_r2) ++ wsX20 ++ wsX00)
def wsX2_greatestByAll_r1 : List Cond := [Cond.fieldLink RX2 10 "PledgedLoans" "books" "LPledgedLoans$Books;", Cond.methodLink RX2 278 yX0_hasLoan, Cond.instanceMethod yX0_hasLoan, Cond.selects RX0 yX0_hasLoan yX0_hasLoan, Cond.initialized RX0, Cond.code yX0_hasLoan cX0_hasLoan 2 (some .boolean), Cond.fieldLink RX0 21 "PledgedLoans$Books" "rest" "[I", Cond.methodLink RX2 281 yX0_threefold, Cond.instanceMethod yX0_threefold, Cond.selects RX0 yX0_threefold yX0_threefold, Cond.code yX0_threefold cX0_threefold 2 (some .int), Cond.fieldLink RX0 9 "PledgedLoans$Books" "shares" "[I", Cond.methodLink RX2 284 yX0_cover, Cond.instanceMethod yX0_cover, Cond.selects RX0 yX0_cover yX0_cover, Cond.code yX0_cover cX0_cover 2 (some .int), Cond.methodLink RX0 85 yX0_ownLeft, Cond.instanceMethod yX0_ownLeft, Cond.selects RX0 yX0_ownLeft yX0_ownLeft, Cond.code yX0_ownLeft cX0_ownLeft 2 (some .int), Cond.methodLink RX0 81 yX0_pledgedBy, Cond.instanceMethod yX0_pledgedBy, Cond.selects RX0 yX0_pledgedBy yX0_pledgedBy, Cond.code yX0_pledgedBy cX0_pledgedBy 5 (some .int)]
def wsX2_greatestByAll_r2 : List Cond := [Cond.fieldLink RX0 18 "PledgedLoans$Books" "pledges" "[I", Cond.methodLink RX0 88 yX0_pledgedFor, Cond.instanceMethod yX0_pledgedFor, Cond.selects RX0 yX0_pledgedFor yX0_pledgedFor, Cond.code yX0_pledgedFor cX0_pledgedFor 4 (some .int), Cond.methodLink RX2 287 yX0_whyAbove, Cond.instanceMethod yX0_whyAbove, Cond.selects RX0 yX0_whyAbove yX0_whyAbove, Cond.code yX0_whyAbove cX0_whyAbove 4 (some .int), Cond.fieldLink RX0 40 "PledgedLoans$Books" "till" "I", Cond.methodLink RX0 111 yX0_feeOf, Cond.instanceMethod yX0_feeOf, Cond.selects RX0 yX0_feeOf yX0_feeOf, Cond.code yX0_feeOf cX0_feeOf 2 (some .int), Cond.fieldLink RX0 33 "PledgedLoans$Books" "settings" "[I"]
def wsX2_greatestByAll : List Cond := .code yX2_greatestByAll cX2_greatestByAll 5 (some .int) :: ((wsX2_greatestByAll_r1 ++ wsX2_greatestByAll_r2) ++ wsX20 ++ wsX00)
def wsX2_greatest_r1 : List Cond := [Cond.methodLink RX2 42 yX2_checkMember, Cond.static yX2_checkMember, Cond.initialized RX2, Cond.code yX2_checkMember cX2_checkMember 1 none, Cond.classLink RX2 208 "java/lang/IndexOutOfBoundsException", Cond.initialized "java/lang/IndexOutOfBoundsException", Cond.methodLink RX2 70 yX2_checkRange, Cond.static yX2_checkRange, Cond.code yX2_checkRange cX2_checkRange 3 none, Cond.classLink RX2 126 "java/lang/IllegalArgumentException", Cond.initialized "java/lang/IllegalArgumentException", Cond.methodLink RX2 163 yX2_greatestByHalving, Cond.instanceMethod yX2_greatestByHalving, Cond.selects RX2 yX2_greatestByHalving yX2_greatestByHalving, Cond.code yX2_greatestByHalving cX2_greatestByHalving 5 (some .int), Cond.fieldLink RX2 10 "PledgedLoans" "books" "LPledgedLoans$Books;", Cond.methodLink RX2 160 yX0_whyNoLoan, Cond.instanceMethod yX0_whyNoLoan, Cond.selects RX0 yX0_whyNoLoan yX0_whyNoLoan, Cond.initialized RX0, Cond.code yX0_whyNoLoan cX0_whyNoLoan 3 (some .int), Cond.methodLink RX0 77 yX0_hasLoan, Cond.instanceMethod yX0_hasLoan, Cond.selects RX0 yX0_hasLoan yX0_hasLoan]
def wsX2_greatest_r2 : List Cond := [Cond.code yX0_hasLoan cX0_hasLoan 2 (some .boolean), Cond.fieldLink RX0 21 "PledgedLoans$Books" "rest" "[I", Cond.methodLink RX0 104 yX0_threefold, Cond.instanceMethod yX0_threefold, Cond.selects RX0 yX0_threefold yX0_threefold, Cond.code yX0_threefold cX0_threefold 2 (some .int), Cond.fieldLink RX0 9 "PledgedLoans$Books" "shares" "[I", Cond.methodLink RX0 94 yX0_cover, Cond.instanceMethod yX0_cover, Cond.selects RX0 yX0_cover yX0_cover, Cond.code yX0_cover cX0_cover 2 (some .int), Cond.methodLink RX0 85 yX0_ownLeft, Cond.instanceMethod yX0_ownLeft, Cond.selects RX0 yX0_ownLeft yX0_ownLeft, Cond.code yX0_ownLeft cX0_ownLeft 2 (some .int), Cond.methodLink RX0 81 yX0_pledgedBy, Cond.instanceMethod yX0_pledgedBy, Cond.selects RX0 yX0_pledgedBy yX0_pledgedBy, Cond.code yX0_pledgedBy cX0_pledgedBy 5 (some .int), Cond.fieldLink RX0 18 "PledgedLoans$Books" "pledges" "[I", Cond.methodLink RX0 88 yX0_pledgedFor, Cond.instanceMethod yX0_pledgedFor, Cond.selects RX0 yX0_pledgedFor yX0_pledgedFor, Cond.code yX0_pledgedFor cX0_pledgedFor 4 (some .int)]
def wsX2_greatest_r3 : List Cond := [Cond.methodLink RX0 107 yX0_whyAbove, Cond.instanceMethod yX0_whyAbove, Cond.selects RX0 yX0_whyAbove yX0_whyAbove, Cond.code yX0_whyAbove cX0_whyAbove 4 (some .int), Cond.fieldLink RX0 40 "PledgedLoans$Books" "till" "I", Cond.methodLink RX0 111 yX0_feeOf, Cond.instanceMethod yX0_feeOf, Cond.selects RX0 yX0_feeOf yX0_feeOf, Cond.code yX0_feeOf cX0_feeOf 2 (some .int), Cond.fieldLink RX0 33 "PledgedLoans$Books" "settings" "[I", Cond.methodLink RX2 166 yX2_greatestByAll, Cond.instanceMethod yX2_greatestByAll, Cond.selects RX2 yX2_greatestByAll yX2_greatestByAll, Cond.code yX2_greatestByAll cX2_greatestByAll 5 (some .int), Cond.methodLink RX2 278 yX0_hasLoan, Cond.methodLink RX2 281 yX0_threefold, Cond.methodLink RX2 284 yX0_cover, Cond.methodLink RX2 287 yX0_whyAbove]
def wsX2_greatest : List Cond := .code yX2_greatest cX2_greatest 3 (some .int) :: ((wsX2_greatest_r1 ++ (wsX2_greatest_r2 ++ wsX2_greatest_r3)) ++ wsX20 ++ wsX00 ++ (vx_atS RX2 212 "java/lang/IndexOutOfBoundsException" ["java/lang/RuntimeException", "java/lang/Exception"]).filter goodWord ++ (vx_atS RX2 130 "java/lang/IllegalArgumentException" ["java/lang/RuntimeException", "java/lang/Exception"]).filter goodWord)
def wsX2_fillFree_r1 : List Cond := [Cond.fieldLink RX2 38 "PledgedLoans" "free" "[I", Cond.fieldLink RX2 10 "PledgedLoans" "books" "LPledgedLoans$Books;", Cond.methodLink RX2 304 yX0_freeShares, Cond.instanceMethod yX0_freeShares, Cond.selects RX0 yX0_freeShares yX0_freeShares, Cond.initialized RX0, Cond.code yX0_freeShares cX0_freeShares 2 (some .int), Cond.fieldLink RX0 21 "PledgedLoans$Books" "rest" "[I", Cond.methodLink RX0 91 Lib.Math.max.name, Cond.static Lib.Math.max.name, Cond.initialized "java/lang/Math", Cond.code Lib.Math.max.name Lib.Math.max.code 2 (some .int), Cond.methodLink RX0 85 yX0_ownLeft, Cond.instanceMethod yX0_ownLeft, Cond.selects RX0 yX0_ownLeft yX0_ownLeft, Cond.code yX0_ownLeft cX0_ownLeft 2 (some .int), Cond.fieldLink RX0 9 "PledgedLoans$Books" "shares" "[I", Cond.methodLink RX0 81 yX0_pledgedBy, Cond.instanceMethod yX0_pledgedBy, Cond.selects RX0 yX0_pledgedBy yX0_pledgedBy, Cond.code yX0_pledgedBy cX0_pledgedBy 5 (some .int), Cond.fieldLink RX0 18 "PledgedLoans$Books" "pledges" "[I", Cond.methodLink RX0 88 yX0_pledgedFor, Cond.instanceMethod yX0_pledgedFor]
def wsX2_fillFree_r2 : List Cond := [Cond.selects RX0 yX0_pledgedFor yX0_pledgedFor, Cond.code yX0_pledgedFor cX0_pledgedFor 4 (some .int)]
def wsX2_fillFree : List Cond := .code yX2_fillFree cX2_fillFree 2 none :: ((wsX2_fillFree_r1 ++ wsX2_fillFree_r2) ++ wsX20 ++ wsX00)
def wsX2_freest : List Cond := .code yX2_freest cX2_freest 4 (some .int) :: ([.fieldLink RX2 38 "PledgedLoans" "free" "[I"] ++ wsX20)
def wsX2_fewestByGreatest_r1 : List Cond := [Cond.fieldLink RX2 10 "PledgedLoans" "books" "LPledgedLoans$Books;", Cond.fieldLink RX2 38 "PledgedLoans" "free" "[I", Cond.methodLink RX2 290 yX2_fillFree, Cond.instanceMethod yX2_fillFree, Cond.selects RX2 yX2_fillFree yX2_fillFree, Cond.initialized RX2, Cond.code yX2_fillFree cX2_fillFree 2 none, Cond.methodLink RX2 304 yX0_freeShares, Cond.instanceMethod yX0_freeShares, Cond.selects RX0 yX0_freeShares yX0_freeShares, Cond.initialized RX0, Cond.code yX0_freeShares cX0_freeShares 2 (some .int), Cond.fieldLink RX0 21 "PledgedLoans$Books" "rest" "[I", Cond.methodLink RX0 91 Lib.Math.max.name, Cond.static Lib.Math.max.name, Cond.initialized "java/lang/Math", Cond.code Lib.Math.max.name Lib.Math.max.code 2 (some .int), Cond.methodLink RX0 85 yX0_ownLeft, Cond.instanceMethod yX0_ownLeft, Cond.selects RX0 yX0_ownLeft yX0_ownLeft, Cond.code yX0_ownLeft cX0_ownLeft 2 (some .int), Cond.fieldLink RX0 9 "PledgedLoans$Books" "shares" "[I", Cond.methodLink RX0 81 yX0_pledgedBy, Cond.instanceMethod yX0_pledgedBy]
def wsX2_fewestByGreatest_r2 : List Cond := [Cond.selects RX0 yX0_pledgedBy yX0_pledgedBy, Cond.code yX0_pledgedBy cX0_pledgedBy 5 (some .int), Cond.fieldLink RX0 18 "PledgedLoans$Books" "pledges" "[I", Cond.methodLink RX0 88 yX0_pledgedFor, Cond.instanceMethod yX0_pledgedFor, Cond.selects RX0 yX0_pledgedFor yX0_pledgedFor, Cond.code yX0_pledgedFor cX0_pledgedFor 4 (some .int), Cond.methodLink RX2 284 yX0_cover, Cond.instanceMethod yX0_cover, Cond.selects RX0 yX0_cover yX0_cover, Cond.code yX0_cover cX0_cover 2 (some .int), Cond.methodLink RX2 293 yX2_freest, Cond.instanceMethod yX2_freest, Cond.selects RX2 yX2_freest yX2_freest, Cond.code yX2_freest cX2_freest 4 (some .int)]
def wsX2_fewestByGreatest : List Cond := .code yX2_fewestByGreatest cX2_fewestByGreatest 7 (some .int) :: ((wsX2_fewestByGreatest_r1 ++ wsX2_fewestByGreatest_r2) ++ wsX20 ++ wsX00)
def wsJ6_bitCount_0f7a4 : List Cond := .code yJ6_bitCount_0f7a4 cJ6_bitCount_0f7a4 1 (some .int) :: ([.constant RJ6 265 (1431655765), .constant RJ6 266 (858993459), .constant RJ6 267 (252645135)])
def wsX2_freeOf : List Cond := .code yX2_freeOf cX2_freeOf 4 (some .int) :: ([.fieldLink RX2 38 "PledgedLoans" "free" "[I"] ++ wsX20)
def wsX2_fewestBySets_r1 : List Cond := [Cond.fieldLink RX2 10 "PledgedLoans" "books" "LPledgedLoans$Books;", Cond.methodLink RX2 290 yX2_fillFree, Cond.instanceMethod yX2_fillFree, Cond.selects RX2 yX2_fillFree yX2_fillFree, Cond.initialized RX2, Cond.code yX2_fillFree cX2_fillFree 2 none, Cond.fieldLink RX2 38 "PledgedLoans" "free" "[I", Cond.methodLink RX2 304 yX0_freeShares, Cond.instanceMethod yX0_freeShares, Cond.selects RX0 yX0_freeShares yX0_freeShares, Cond.initialized RX0, Cond.code yX0_freeShares cX0_freeShares 2 (some .int), Cond.fieldLink RX0 21 "PledgedLoans$Books" "rest" "[I", Cond.methodLink RX0 91 Lib.Math.max.name, Cond.static Lib.Math.max.name, Cond.initialized "java/lang/Math", Cond.code Lib.Math.max.name Lib.Math.max.code 2 (some .int), Cond.methodLink RX0 85 yX0_ownLeft, Cond.instanceMethod yX0_ownLeft, Cond.selects RX0 yX0_ownLeft yX0_ownLeft, Cond.code yX0_ownLeft cX0_ownLeft 2 (some .int), Cond.fieldLink RX0 9 "PledgedLoans$Books" "shares" "[I", Cond.methodLink RX0 81 yX0_pledgedBy, Cond.instanceMethod yX0_pledgedBy]
def wsX2_fewestBySets_r2 : List Cond := [Cond.selects RX0 yX0_pledgedBy yX0_pledgedBy, Cond.code yX0_pledgedBy cX0_pledgedBy 5 (some .int), Cond.fieldLink RX0 18 "PledgedLoans$Books" "pledges" "[I", Cond.methodLink RX0 88 yX0_pledgedFor, Cond.instanceMethod yX0_pledgedFor, Cond.selects RX0 yX0_pledgedFor yX0_pledgedFor, Cond.code yX0_pledgedFor cX0_pledgedFor 4 (some .int), Cond.methodLink RX2 284 yX0_cover, Cond.instanceMethod yX0_cover, Cond.selects RX0 yX0_cover yX0_cover, Cond.code yX0_cover cX0_cover 2 (some .int), Cond.methodLink RX2 296 yJ6_bitCount_0f7a4, Cond.static yJ6_bitCount_0f7a4, Cond.initialized RJ6, Cond.code yJ6_bitCount_0f7a4 cJ6_bitCount_0f7a4 1 (some .int), Cond.constant RJ6 265 (1431655765), Cond.constant RJ6 266 (858993459), Cond.constant RJ6 267 (252645135), Cond.methodLink RX2 301 yX2_freeOf, Cond.instanceMethod yX2_freeOf, Cond.selects RX2 yX2_freeOf yX2_freeOf, Cond.code yX2_freeOf cX2_freeOf 4 (some .int)]
def wsX2_fewestBySets : List Cond := .code yX2_fewestBySets cX2_fewestBySets 8 (some .int) :: ((wsX2_fewestBySets_r1 ++ wsX2_fewestBySets_r2) ++ wsX20 ++ wsX00)
def wsX2_guarantors_r1 : List Cond := [Cond.methodLink RX2 42 yX2_checkMember, Cond.static yX2_checkMember, Cond.initialized RX2, Cond.code yX2_checkMember cX2_checkMember 1 none, Cond.classLink RX2 208 "java/lang/IndexOutOfBoundsException", Cond.initialized "java/lang/IndexOutOfBoundsException", Cond.methodLink RX2 46 yX2_checkAmount, Cond.static yX2_checkAmount, Cond.code yX2_checkAmount cX2_checkAmount 1 none, Cond.methodLink RX2 70 yX2_checkRange, Cond.static yX2_checkRange, Cond.code yX2_checkRange cX2_checkRange 3 none, Cond.classLink RX2 126 "java/lang/IllegalArgumentException", Cond.initialized "java/lang/IllegalArgumentException", Cond.methodLink RX2 169 yX2_fewestByGreatest, Cond.instanceMethod yX2_fewestByGreatest, Cond.selects RX2 yX2_fewestByGreatest yX2_fewestByGreatest, Cond.code yX2_fewestByGreatest cX2_fewestByGreatest 7 (some .int), Cond.fieldLink RX2 10 "PledgedLoans" "books" "LPledgedLoans$Books;", Cond.fieldLink RX2 38 "PledgedLoans" "free" "[I", Cond.methodLink RX2 290 yX2_fillFree, Cond.instanceMethod yX2_fillFree, Cond.selects RX2 yX2_fillFree yX2_fillFree, Cond.code yX2_fillFree cX2_fillFree 2 none]
def wsX2_guarantors_r2 : List Cond := [Cond.methodLink RX2 304 yX0_freeShares, Cond.instanceMethod yX0_freeShares, Cond.selects RX0 yX0_freeShares yX0_freeShares, Cond.initialized RX0, Cond.code yX0_freeShares cX0_freeShares 2 (some .int), Cond.fieldLink RX0 21 "PledgedLoans$Books" "rest" "[I", Cond.methodLink RX0 91 Lib.Math.max.name, Cond.static Lib.Math.max.name, Cond.initialized "java/lang/Math", Cond.code Lib.Math.max.name Lib.Math.max.code 2 (some .int), Cond.methodLink RX0 85 yX0_ownLeft, Cond.instanceMethod yX0_ownLeft, Cond.selects RX0 yX0_ownLeft yX0_ownLeft, Cond.code yX0_ownLeft cX0_ownLeft 2 (some .int), Cond.fieldLink RX0 9 "PledgedLoans$Books" "shares" "[I", Cond.methodLink RX0 81 yX0_pledgedBy, Cond.instanceMethod yX0_pledgedBy, Cond.selects RX0 yX0_pledgedBy yX0_pledgedBy, Cond.code yX0_pledgedBy cX0_pledgedBy 5 (some .int), Cond.fieldLink RX0 18 "PledgedLoans$Books" "pledges" "[I", Cond.methodLink RX0 88 yX0_pledgedFor, Cond.instanceMethod yX0_pledgedFor, Cond.selects RX0 yX0_pledgedFor yX0_pledgedFor, Cond.code yX0_pledgedFor cX0_pledgedFor 4 (some .int)]
def wsX2_guarantors_r3 : List Cond := [Cond.methodLink RX2 284 yX0_cover, Cond.instanceMethod yX0_cover, Cond.selects RX0 yX0_cover yX0_cover, Cond.code yX0_cover cX0_cover 2 (some .int), Cond.methodLink RX2 293 yX2_freest, Cond.instanceMethod yX2_freest, Cond.selects RX2 yX2_freest yX2_freest, Cond.code yX2_freest cX2_freest 4 (some .int), Cond.methodLink RX2 172 yX2_fewestBySets, Cond.instanceMethod yX2_fewestBySets, Cond.selects RX2 yX2_fewestBySets yX2_fewestBySets, Cond.code yX2_fewestBySets cX2_fewestBySets 8 (some .int), Cond.methodLink RX2 296 yJ6_bitCount_0f7a4, Cond.static yJ6_bitCount_0f7a4, Cond.initialized RJ6, Cond.code yJ6_bitCount_0f7a4 cJ6_bitCount_0f7a4 1 (some .int), Cond.constant RJ6 265 (1431655765), Cond.constant RJ6 266 (858993459), Cond.constant RJ6 267 (252645135), Cond.methodLink RX2 301 yX2_freeOf, Cond.instanceMethod yX2_freeOf, Cond.selects RX2 yX2_freeOf yX2_freeOf, Cond.code yX2_freeOf cX2_freeOf 4 (some .int)]
def wsX2_guarantors : List Cond := .code yX2_guarantors cX2_guarantors 4 (some .int) :: ((wsX2_guarantors_r1 ++ (wsX2_guarantors_r2 ++ wsX2_guarantors_r3)) ++ wsX20 ++ wsX00 ++ (vx_atS RX2 212 "java/lang/IndexOutOfBoundsException" ["java/lang/RuntimeException", "java/lang/Exception"]).filter goodWord ++ (vx_atS RX2 130 "java/lang/IllegalArgumentException" ["java/lang/RuntimeException", "java/lang/Exception"]).filter goodWord)
def wsX2_weeksLeft_r1 : List Cond := [Cond.fieldLink RX2 10 "PledgedLoans" "books" "LPledgedLoans$Books;", Cond.methodLink RX2 42 yX2_checkMember, Cond.static yX2_checkMember, Cond.initialized RX2, Cond.code yX2_checkMember cX2_checkMember 1 none, Cond.classLink RX2 208 "java/lang/IndexOutOfBoundsException", Cond.initialized "java/lang/IndexOutOfBoundsException", Cond.methodLink RX2 70 yX2_checkRange, Cond.static yX2_checkRange, Cond.code yX2_checkRange cX2_checkRange 3 none, Cond.classLink RX2 126 "java/lang/IllegalArgumentException", Cond.initialized "java/lang/IllegalArgumentException", Cond.methodLink RX2 175 yX0_weeksByWeeks, Cond.instanceMethod yX0_weeksByWeeks, Cond.selects RX0 yX0_weeksByWeeks yX0_weeksByWeeks, Cond.initialized RX0, Cond.code yX0_weeksByWeeks cX0_weeksByWeeks 4 (some .int), Cond.fieldLink RX0 21 "PledgedLoans$Books" "rest" "[I", Cond.fieldLink RX0 24 "PledgedLoans$Books" "part" "[I", Cond.methodLink RX0 65 Lib.Math.min.name, Cond.static Lib.Math.min.name, Cond.initialized "java/lang/Math", Cond.code Lib.Math.min.name Lib.Math.min.code 2 (some .int), Cond.methodLink RX2 178 yX0_weeksAtOnce]
def wsX2_weeksLeft_r2 : List Cond := [Cond.instanceMethod yX0_weeksAtOnce, Cond.selects RX0 yX0_weeksAtOnce yX0_weeksAtOnce, Cond.code yX0_weeksAtOnce cX0_weeksAtOnce 3 (some .int), Cond.methodLink RX0 77 yX0_hasLoan, Cond.instanceMethod yX0_hasLoan, Cond.selects RX0 yX0_hasLoan yX0_hasLoan, Cond.code yX0_hasLoan cX0_hasLoan 2 (some .boolean)]
def wsX2_weeksLeft : List Cond := .code yX2_weeksLeft cX2_weeksLeft 3 (some .int) :: ((wsX2_weeksLeft_r1 ++ wsX2_weeksLeft_r2) ++ wsX20 ++ wsX00 ++ (vx_atS RX2 212 "java/lang/IndexOutOfBoundsException" ["java/lang/RuntimeException", "java/lang/Exception"]).filter goodWord ++ (vx_atS RX2 130 "java/lang/IllegalArgumentException" ["java/lang/RuntimeException", "java/lang/Exception"]).filter goodWord)
def wsX2_ifDivided : List Cond := .code yX2_ifDivided cX2_ifDivided 2 (some .int) :: ([.fieldLink RX2 10 "PledgedLoans" "books" "LPledgedLoans$Books;", .methodLink RX2 42 yX2_checkMember, .static yX2_checkMember, .initialized RX2, .code yX2_checkMember cX2_checkMember 1 none, .classLink RX2 208 "java/lang/IndexOutOfBoundsException", .initialized "java/lang/IndexOutOfBoundsException", .methodLink RX2 181 yX0_allShareDays, .instanceMethod yX0_allShareDays, .selects RX0 yX0_allShareDays yX0_allShareDays, .initialized RX0, .code yX0_allShareDays cX0_allShareDays 7 (some .long), .fieldLink RX0 15 "PledgedLoans$Books" "shareDays" "[I", .methodLink RX2 185 yX0_dividendOf, .instanceMethod yX0_dividendOf, .selects RX0 yX0_dividendOf yX0_dividendOf, .code yX0_dividendOf cX0_dividendOf 4 (some .int), .fieldLink RX0 44 "PledgedLoans$Books" "surplus" "I"] ++ wsX20 ++ wsX00 ++ (vx_atS RX2 212 "java/lang/IndexOutOfBoundsException" ["java/lang/RuntimeException", "java/lang/Exception"]).filter goodWord)
def wsX2_riskiest : List Cond := .code yX2_riskiest cX2_riskiest 1 (some .int) :: ([.fieldLink RX2 10 "PledgedLoans" "books" "LPledgedLoans$Books;", .methodLink RX2 189 yX0_mostAtStake, .instanceMethod yX0_mostAtStake, .selects RX0 yX0_mostAtStake yX0_mostAtStake, .initialized RX0, .code yX0_mostAtStake cX0_mostAtStake 5 (some .int), .fieldLink RX0 21 "PledgedLoans$Books" "rest" "[I", .methodLink RX0 85 yX0_ownLeft, .instanceMethod yX0_ownLeft, .selects RX0 yX0_ownLeft yX0_ownLeft, .code yX0_ownLeft cX0_ownLeft 2 (some .int), .fieldLink RX0 9 "PledgedLoans$Books" "shares" "[I", .methodLink RX0 81 yX0_pledgedBy, .instanceMethod yX0_pledgedBy, .selects RX0 yX0_pledgedBy yX0_pledgedBy, .code yX0_pledgedBy cX0_pledgedBy 5 (some .int), .fieldLink RX0 18 "PledgedLoans$Books" "pledges" "[I", .methodLink RX0 77 yX0_hasLoan, .instanceMethod yX0_hasLoan, .selects RX0 yX0_hasLoan yX0_hasLoan, .code yX0_hasLoan cX0_hasLoan 2 (some .boolean)] ++ wsX20 ++ wsX00)
def wsX2_lentShare : List Cond := .code yX2_lentShare cX2_lentShare 1 (some .double) :: ([.fieldLink RX2 10 "PledgedLoans" "books" "LPledgedLoans$Books;", .methodLink RX2 192 yX0_lentPart, .instanceMethod yX0_lentPart, .selects RX0 yX0_lentPart yX0_lentPart, .initialized RX0, .code yX0_lentPart cX0_lentPart 2 (some .double), .methodLink RX0 117 yX0_allShares, .instanceMethod yX0_allShares, .selects RX0 yX0_allShares yX0_allShares, .code yX0_allShares cX0_allShares 6 (some .int), .fieldLink RX0 9 "PledgedLoans$Books" "shares" "[I", .methodLink RX0 121 yX0_allRests, .instanceMethod yX0_allRests, .selects RX0 yX0_allRests yX0_allRests, .code yX0_allRests cX0_allRests 6 (some .int), .fieldLink RX0 21 "PledgedLoans$Books" "rest" "[I"] ++ wsX20 ++ wsX00)
def wsX2_digestOfMember_r1 : List Cond := [Cond.constantLong RX2 198 (31), Cond.fieldLink RX2 10 "PledgedLoans" "books" "LPledgedLoans$Books;", Cond.fieldLink RX2 151 "PledgedLoans$Books" "pledges" "[I", Cond.methodLink RX2 148 yX0_property, Cond.instanceMethod yX0_property, Cond.selects RX0 yX0_property yX0_property, Cond.initialized RX0, Cond.code yX0_property cX0_property 3 (some .int), Cond.fieldLink RX0 9 "PledgedLoans$Books" "shares" "[I", Cond.fieldLink RX0 15 "PledgedLoans$Books" "shareDays" "[I", Cond.fieldLink RX0 21 "PledgedLoans$Books" "rest" "[I", Cond.fieldLink RX0 24 "PledgedLoans$Books" "part" "[I", Cond.fieldLink RX0 27 "PledgedLoans$Books" "paid" "[I", Cond.fieldLink RX0 30 "PledgedLoans$Books" "misses" "[I", Cond.methodLink RX0 81 yX0_pledgedBy, Cond.instanceMethod yX0_pledgedBy, Cond.selects RX0 yX0_pledgedBy yX0_pledgedBy, Cond.code yX0_pledgedBy cX0_pledgedBy 5 (some .int), Cond.fieldLink RX0 18 "PledgedLoans$Books" "pledges" "[I", Cond.methodLink RX0 88 yX0_pledgedFor, Cond.instanceMethod yX0_pledgedFor, Cond.selects RX0 yX0_pledgedFor yX0_pledgedFor, Cond.code yX0_pledgedFor cX0_pledgedFor 4 (some .int), Cond.methodLink RX0 94 yX0_cover]
def wsX2_digestOfMember_r2 : List Cond := [Cond.instanceMethod yX0_cover, Cond.selects RX0 yX0_cover yX0_cover, Cond.code yX0_cover cX0_cover 2 (some .int), Cond.methodLink RX0 85 yX0_ownLeft, Cond.instanceMethod yX0_ownLeft, Cond.selects RX0 yX0_ownLeft yX0_ownLeft, Cond.code yX0_ownLeft cX0_ownLeft 2 (some .int), Cond.methodLink RX0 97 yX0_freeShares, Cond.instanceMethod yX0_freeShares, Cond.selects RX0 yX0_freeShares yX0_freeShares, Cond.code yX0_freeShares cX0_freeShares 2 (some .int), Cond.methodLink RX0 91 Lib.Math.max.name, Cond.static Lib.Math.max.name, Cond.initialized "java/lang/Math", Cond.code Lib.Math.max.name Lib.Math.max.code 2 (some .int), Cond.methodLink RX0 77 yX0_hasLoan, Cond.instanceMethod yX0_hasLoan, Cond.selects RX0 yX0_hasLoan yX0_hasLoan, Cond.code yX0_hasLoan cX0_hasLoan 2 (some .boolean), Cond.methodLink RX2 154 yX0_place, Cond.static yX0_place, Cond.code yX0_place cX0_place 2 (some .int), Cond.methodLink RX2 163 yX2_greatestByHalving, Cond.instanceMethod yX2_greatestByHalving]
def wsX2_digestOfMember_r3 : List Cond := [Cond.selects RX2 yX2_greatestByHalving yX2_greatestByHalving, Cond.initialized RX2, Cond.code yX2_greatestByHalving cX2_greatestByHalving 5 (some .int), Cond.methodLink RX2 160 yX0_whyNoLoan, Cond.instanceMethod yX0_whyNoLoan, Cond.selects RX0 yX0_whyNoLoan yX0_whyNoLoan, Cond.code yX0_whyNoLoan cX0_whyNoLoan 3 (some .int), Cond.methodLink RX0 104 yX0_threefold, Cond.instanceMethod yX0_threefold, Cond.selects RX0 yX0_threefold yX0_threefold, Cond.code yX0_threefold cX0_threefold 2 (some .int), Cond.methodLink RX0 107 yX0_whyAbove, Cond.instanceMethod yX0_whyAbove, Cond.selects RX0 yX0_whyAbove yX0_whyAbove, Cond.code yX0_whyAbove cX0_whyAbove 4 (some .int), Cond.fieldLink RX0 40 "PledgedLoans$Books" "till" "I", Cond.methodLink RX0 111 yX0_feeOf, Cond.instanceMethod yX0_feeOf, Cond.selects RX0 yX0_feeOf yX0_feeOf, Cond.code yX0_feeOf cX0_feeOf 2 (some .int), Cond.fieldLink RX0 33 "PledgedLoans$Books" "settings" "[I", Cond.methodLink RX2 166 yX2_greatestByAll, Cond.instanceMethod yX2_greatestByAll, Cond.selects RX2 yX2_greatestByAll yX2_greatestByAll]
def wsX2_digestOfMember_r4 : List Cond := [Cond.code yX2_greatestByAll cX2_greatestByAll 5 (some .int), Cond.methodLink RX2 278 yX0_hasLoan, Cond.methodLink RX2 281 yX0_threefold, Cond.methodLink RX2 284 yX0_cover, Cond.methodLink RX2 287 yX0_whyAbove, Cond.methodLink RX2 169 yX2_fewestByGreatest, Cond.instanceMethod yX2_fewestByGreatest, Cond.selects RX2 yX2_fewestByGreatest yX2_fewestByGreatest, Cond.code yX2_fewestByGreatest cX2_fewestByGreatest 7 (some .int), Cond.fieldLink RX2 38 "PledgedLoans" "free" "[I", Cond.methodLink RX2 290 yX2_fillFree, Cond.instanceMethod yX2_fillFree, Cond.selects RX2 yX2_fillFree yX2_fillFree, Cond.code yX2_fillFree cX2_fillFree 2 none, Cond.methodLink RX2 304 yX0_freeShares, Cond.methodLink RX2 293 yX2_freest, Cond.instanceMethod yX2_freest, Cond.selects RX2 yX2_freest yX2_freest, Cond.code yX2_freest cX2_freest 4 (some .int), Cond.methodLink RX2 172 yX2_fewestBySets, Cond.instanceMethod yX2_fewestBySets, Cond.selects RX2 yX2_fewestBySets yX2_fewestBySets, Cond.code yX2_fewestBySets cX2_fewestBySets 8 (some .int), Cond.methodLink RX2 296 yJ6_bitCount_0f7a4]
def wsX2_digestOfMember_r5 : List Cond := [Cond.static yJ6_bitCount_0f7a4, Cond.initialized RJ6, Cond.code yJ6_bitCount_0f7a4 cJ6_bitCount_0f7a4 1 (some .int), Cond.constant RJ6 265 (1431655765), Cond.constant RJ6 266 (858993459), Cond.constant RJ6 267 (252645135), Cond.methodLink RX2 301 yX2_freeOf, Cond.instanceMethod yX2_freeOf, Cond.selects RX2 yX2_freeOf yX2_freeOf, Cond.code yX2_freeOf cX2_freeOf 4 (some .int), Cond.methodLink RX2 175 yX0_weeksByWeeks, Cond.instanceMethod yX0_weeksByWeeks, Cond.selects RX0 yX0_weeksByWeeks yX0_weeksByWeeks, Cond.code yX0_weeksByWeeks cX0_weeksByWeeks 4 (some .int), Cond.methodLink RX0 65 Lib.Math.min.name, Cond.static Lib.Math.min.name, Cond.code Lib.Math.min.name Lib.Math.min.code 2 (some .int), Cond.methodLink RX2 178 yX0_weeksAtOnce, Cond.instanceMethod yX0_weeksAtOnce, Cond.selects RX0 yX0_weeksAtOnce yX0_weeksAtOnce, Cond.code yX0_weeksAtOnce cX0_weeksAtOnce 3 (some .int), Cond.methodLink RX2 181 yX0_allShareDays, Cond.instanceMethod yX0_allShareDays, Cond.selects RX0 yX0_allShareDays yX0_allShareDays]
def wsX2_digestOfMember_r6 : List Cond := [Cond.code yX0_allShareDays cX0_allShareDays 7 (some .long), Cond.methodLink RX2 185 yX0_dividendOf, Cond.instanceMethod yX0_dividendOf, Cond.selects RX0 yX0_dividendOf yX0_dividendOf, Cond.code yX0_dividendOf cX0_dividendOf 4 (some .int), Cond.fieldLink RX0 44 "PledgedLoans$Books" "surplus" "I"]
def wsX2_digestOfMember : List Cond := .code yX2_digestOfMember cX2_digestOfMember 7 (some .long) :: ((wsX2_digestOfMember_r1 ++ (wsX2_digestOfMember_r2 ++ (wsX2_digestOfMember_r3 ++ (wsX2_digestOfMember_r4 ++ (wsX2_digestOfMember_r5 ++ wsX2_digestOfMember_r6))))) ++ wsX20 ++ wsX00)
def wsX2_bits : List Cond := .code yX2_bits cX2_bits 7 (some .long) :: ([.constantDouble RX2 307 (4611686018427387904), .constantDouble RX2 309 (4841369599423283200)])
def wsX2_digest_r1 : List Cond := [Cond.constantLong RX2 196 (3607), Cond.constantLong RX2 198 (31), Cond.fieldLink RX2 10 "PledgedLoans" "books" "LPledgedLoans$Books;", Cond.fieldLink RX2 111 "PledgedLoans$Books" "settings" "[I", Cond.fieldLink RX2 23 "PledgedLoans" "slotFilled" "[Z", Cond.fieldLink RX2 114 "PledgedLoans" "bufferLength" "I", Cond.fieldLink RX2 27 "PledgedLoans" "buffer" "[C", Cond.methodLink RX2 157 yX2_number, Cond.instanceMethod yX2_number, Cond.selects RX2 yX2_number yX2_number, Cond.initialized RX2, Cond.code yX2_number cX2_number 2 (some .int), Cond.fieldLink RX2 248 "PledgedLoans$Books" "till" "I", Cond.fieldLink RX2 251 "PledgedLoans$Books" "surplus" "I", Cond.fieldLink RX2 260 "PledgedLoans$Books" "loansGiven" "I", Cond.fieldLink RX2 263 "PledgedLoans$Books" "loansFallenDue" "I", Cond.fieldLink RX2 266 "PledgedLoans$Books" "weeksEnded" "I", Cond.fieldLink RX2 269 "PledgedLoans$Books" "day" "I", Cond.fieldLink RX2 272 "PledgedLoans$Books" "refused" "I", Cond.fieldLink RX2 275 "PledgedLoans$Books" "dividendsPaid" "I", Cond.fieldLink RX2 143 "PledgedLoans" "savedStates" "I", Cond.methodLink RX2 254 yX0_allShares, Cond.instanceMethod yX0_allShares, Cond.selects RX0 yX0_allShares yX0_allShares]
def wsX2_digest_r2 : List Cond := [Cond.initialized RX0, Cond.code yX0_allShares cX0_allShares 6 (some .int), Cond.fieldLink RX0 9 "PledgedLoans$Books" "shares" "[I", Cond.methodLink RX2 257 yX0_allRests, Cond.instanceMethod yX0_allRests, Cond.selects RX0 yX0_allRests yX0_allRests, Cond.code yX0_allRests cX0_allRests 6 (some .int), Cond.fieldLink RX0 21 "PledgedLoans$Books" "rest" "[I", Cond.methodLink RX2 138 yX0_loans, Cond.instanceMethod yX0_loans, Cond.selects RX0 yX0_loans yX0_loans, Cond.code yX0_loans cX0_loans 3 (some .int), Cond.methodLink RX0 77 yX0_hasLoan, Cond.instanceMethod yX0_hasLoan, Cond.selects RX0 yX0_hasLoan yX0_hasLoan, Cond.code yX0_hasLoan cX0_hasLoan 2 (some .boolean), Cond.methodLink RX2 200 yX2_digestOfMember, Cond.instanceMethod yX2_digestOfMember, Cond.selects RX2 yX2_digestOfMember yX2_digestOfMember, Cond.code yX2_digestOfMember cX2_digestOfMember 7 (some .long), Cond.fieldLink RX2 151 "PledgedLoans$Books" "pledges" "[I", Cond.methodLink RX2 148 yX0_property, Cond.instanceMethod yX0_property, Cond.selects RX0 yX0_property yX0_property]
def wsX2_digest_r3 : List Cond := [Cond.code yX0_property cX0_property 3 (some .int), Cond.fieldLink RX0 15 "PledgedLoans$Books" "shareDays" "[I", Cond.fieldLink RX0 24 "PledgedLoans$Books" "part" "[I", Cond.fieldLink RX0 27 "PledgedLoans$Books" "paid" "[I", Cond.fieldLink RX0 30 "PledgedLoans$Books" "misses" "[I", Cond.methodLink RX0 81 yX0_pledgedBy, Cond.instanceMethod yX0_pledgedBy, Cond.selects RX0 yX0_pledgedBy yX0_pledgedBy, Cond.code yX0_pledgedBy cX0_pledgedBy 5 (some .int), Cond.fieldLink RX0 18 "PledgedLoans$Books" "pledges" "[I", Cond.methodLink RX0 88 yX0_pledgedFor, Cond.instanceMethod yX0_pledgedFor, Cond.selects RX0 yX0_pledgedFor yX0_pledgedFor, Cond.code yX0_pledgedFor cX0_pledgedFor 4 (some .int), Cond.methodLink RX0 94 yX0_cover, Cond.instanceMethod yX0_cover, Cond.selects RX0 yX0_cover yX0_cover, Cond.code yX0_cover cX0_cover 2 (some .int), Cond.methodLink RX0 85 yX0_ownLeft, Cond.instanceMethod yX0_ownLeft, Cond.selects RX0 yX0_ownLeft yX0_ownLeft, Cond.code yX0_ownLeft cX0_ownLeft 2 (some .int), Cond.methodLink RX0 97 yX0_freeShares, Cond.instanceMethod yX0_freeShares]
def wsX2_digest_r4 : List Cond := [Cond.selects RX0 yX0_freeShares yX0_freeShares, Cond.code yX0_freeShares cX0_freeShares 2 (some .int), Cond.methodLink RX0 91 Lib.Math.max.name, Cond.static Lib.Math.max.name, Cond.initialized "java/lang/Math", Cond.code Lib.Math.max.name Lib.Math.max.code 2 (some .int), Cond.methodLink RX2 154 yX0_place, Cond.static yX0_place, Cond.code yX0_place cX0_place 2 (some .int), Cond.methodLink RX2 163 yX2_greatestByHalving, Cond.instanceMethod yX2_greatestByHalving, Cond.selects RX2 yX2_greatestByHalving yX2_greatestByHalving, Cond.code yX2_greatestByHalving cX2_greatestByHalving 5 (some .int), Cond.methodLink RX2 160 yX0_whyNoLoan, Cond.instanceMethod yX0_whyNoLoan, Cond.selects RX0 yX0_whyNoLoan yX0_whyNoLoan, Cond.code yX0_whyNoLoan cX0_whyNoLoan 3 (some .int), Cond.methodLink RX0 104 yX0_threefold, Cond.instanceMethod yX0_threefold, Cond.selects RX0 yX0_threefold yX0_threefold, Cond.code yX0_threefold cX0_threefold 2 (some .int), Cond.methodLink RX0 107 yX0_whyAbove, Cond.instanceMethod yX0_whyAbove, Cond.selects RX0 yX0_whyAbove yX0_whyAbove]
def wsX2_digest_r5 : List Cond := [Cond.code yX0_whyAbove cX0_whyAbove 4 (some .int), Cond.fieldLink RX0 40 "PledgedLoans$Books" "till" "I", Cond.methodLink RX0 111 yX0_feeOf, Cond.instanceMethod yX0_feeOf, Cond.selects RX0 yX0_feeOf yX0_feeOf, Cond.code yX0_feeOf cX0_feeOf 2 (some .int), Cond.fieldLink RX0 33 "PledgedLoans$Books" "settings" "[I", Cond.methodLink RX2 166 yX2_greatestByAll, Cond.instanceMethod yX2_greatestByAll, Cond.selects RX2 yX2_greatestByAll yX2_greatestByAll, Cond.code yX2_greatestByAll cX2_greatestByAll 5 (some .int), Cond.methodLink RX2 278 yX0_hasLoan, Cond.methodLink RX2 281 yX0_threefold, Cond.methodLink RX2 284 yX0_cover, Cond.methodLink RX2 287 yX0_whyAbove, Cond.methodLink RX2 169 yX2_fewestByGreatest, Cond.instanceMethod yX2_fewestByGreatest, Cond.selects RX2 yX2_fewestByGreatest yX2_fewestByGreatest, Cond.code yX2_fewestByGreatest cX2_fewestByGreatest 7 (some .int), Cond.fieldLink RX2 38 "PledgedLoans" "free" "[I", Cond.methodLink RX2 290 yX2_fillFree, Cond.instanceMethod yX2_fillFree, Cond.selects RX2 yX2_fillFree yX2_fillFree, Cond.code yX2_fillFree cX2_fillFree 2 none]
def wsX2_digest_r6 : List Cond := [Cond.methodLink RX2 304 yX0_freeShares, Cond.methodLink RX2 293 yX2_freest, Cond.instanceMethod yX2_freest, Cond.selects RX2 yX2_freest yX2_freest, Cond.code yX2_freest cX2_freest 4 (some .int), Cond.methodLink RX2 172 yX2_fewestBySets, Cond.instanceMethod yX2_fewestBySets, Cond.selects RX2 yX2_fewestBySets yX2_fewestBySets, Cond.code yX2_fewestBySets cX2_fewestBySets 8 (some .int), Cond.methodLink RX2 296 yJ6_bitCount_0f7a4, Cond.static yJ6_bitCount_0f7a4, Cond.initialized RJ6, Cond.code yJ6_bitCount_0f7a4 cJ6_bitCount_0f7a4 1 (some .int), Cond.constant RJ6 265 (1431655765), Cond.constant RJ6 266 (858993459), Cond.constant RJ6 267 (252645135), Cond.methodLink RX2 301 yX2_freeOf, Cond.instanceMethod yX2_freeOf, Cond.selects RX2 yX2_freeOf yX2_freeOf, Cond.code yX2_freeOf cX2_freeOf 4 (some .int), Cond.methodLink RX2 175 yX0_weeksByWeeks, Cond.instanceMethod yX0_weeksByWeeks, Cond.selects RX0 yX0_weeksByWeeks yX0_weeksByWeeks, Cond.code yX0_weeksByWeeks cX0_weeksByWeeks 4 (some .int)]
def wsX2_digest_r7 : List Cond := [Cond.methodLink RX0 65 Lib.Math.min.name, Cond.static Lib.Math.min.name, Cond.code Lib.Math.min.name Lib.Math.min.code 2 (some .int), Cond.methodLink RX2 178 yX0_weeksAtOnce, Cond.instanceMethod yX0_weeksAtOnce, Cond.selects RX0 yX0_weeksAtOnce yX0_weeksAtOnce, Cond.code yX0_weeksAtOnce cX0_weeksAtOnce 3 (some .int), Cond.methodLink RX2 181 yX0_allShareDays, Cond.instanceMethod yX0_allShareDays, Cond.selects RX0 yX0_allShareDays yX0_allShareDays, Cond.code yX0_allShareDays cX0_allShareDays 7 (some .long), Cond.methodLink RX2 185 yX0_dividendOf, Cond.instanceMethod yX0_dividendOf, Cond.selects RX0 yX0_dividendOf yX0_dividendOf, Cond.code yX0_dividendOf cX0_dividendOf 4 (some .int), Cond.fieldLink RX0 44 "PledgedLoans$Books" "surplus" "I", Cond.methodLink RX2 189 yX0_mostAtStake, Cond.instanceMethod yX0_mostAtStake, Cond.selects RX0 yX0_mostAtStake yX0_mostAtStake, Cond.code yX0_mostAtStake cX0_mostAtStake 5 (some .int), Cond.methodLink RX2 192 yX0_lentPart, Cond.instanceMethod yX0_lentPart, Cond.selects RX0 yX0_lentPart yX0_lentPart, Cond.code yX0_lentPart cX0_lentPart 2 (some .double)]
def wsX2_digest_r8 : List Cond := [Cond.methodLink RX0 117 yX0_allShares, Cond.methodLink RX0 121 yX0_allRests, Cond.methodLink RX2 204 yX2_bits, Cond.static yX2_bits, Cond.code yX2_bits cX2_bits 7 (some .long), Cond.constantDouble RX2 307 (4611686018427387904), Cond.constantDouble RX2 309 (4841369599423283200)]
def wsX2_digest : List Cond := .code yX2_digest cX2_digest 4 (some .long) :: ((wsX2_digest_r1 ++ (wsX2_digest_r2 ++ (wsX2_digest_r3 ++ (wsX2_digest_r4 ++ (wsX2_digest_r5 ++ (wsX2_digest_r6 ++ (wsX2_digest_r7 ++ wsX2_digest_r8))))))) ++ wsX20 ++ wsX00)
def wsX3_init : List Cond := .code yX3_init cX3_init 1 none :: ([.methodLink RX3 1 objectInit, .instanceMethod objectInit, .code objectInit ⟨#[0xb1]⟩ 1 none, .arrayClass .int, .fieldLink RX3 7 "PledgedLoansModel" "s" "[I", .arrayClass .boolean, .fieldLink RX3 13 "PledgedLoansModel" "isKept" "[Z", .fieldLink RX3 17 "PledgedLoansModel" "text" "[I", .fieldLink RX3 20 "PledgedLoansModel" "frees" "[I"] ++ wsX30)
def wsX3_thrown : List Cond := .code yX3_thrown cX3_thrown 1 (some .int) :: ([.fieldLink RX3 23 "PledgedLoansModel" "thrown" "I"] ++ wsX30)
def wsX3_in : List Cond := .code yX3_in cX3_in 3 (some .boolean) :: ([])
def wsX3_holds : List Cond := .code yX3_holds cX3_holds 2 (some .boolean) :: ([.fieldLink RX3 23 "PledgedLoansModel" "thrown" "I"] ++ wsX30)
def wsX3_isMember : List Cond := .code yX3_isMember cX3_isMember 1 (some .boolean) :: ([.methodLink RX3 27 yX3_in, .static yX3_in, .initialized RX3, .code yX3_in cX3_in 3 (some .boolean)])
def wsX3_isAmount : List Cond := .code yX3_isAmount cX3_isAmount 1 (some .boolean) :: ([.methodLink RX3 27 yX3_in, .static yX3_in, .initialized RX3, .code yX3_in cX3_in 3 (some .boolean)])
def wsX3_of : List Cond := .code yX3_of cX3_of 3 (some .int) :: ([.fieldLink RX3 7 "PledgedLoansModel" "s" "[I"] ++ wsX30)
def wsX3_adds : List Cond := .code yX3_adds cX3_adds 4 none :: ([.fieldLink RX3 7 "PledgedLoansModel" "s" "[I"] ++ wsX30)
def wsX3_pledgeOf : List Cond := .code yX3_pledgeOf cX3_pledgeOf 3 (some .int) :: ([.fieldLink RX3 7 "PledgedLoansModel" "s" "[I"] ++ wsX30)
def wsX3_pledgedBy : List Cond := .code yX3_pledgedBy cX3_pledgedBy 4 (some .int) :: ([.methodLink RX3 31 yX3_pledgeOf, .instanceMethod yX3_pledgeOf, .selects RX3 yX3_pledgeOf yX3_pledgeOf, .initialized RX3, .code yX3_pledgeOf cX3_pledgeOf 3 (some .int), .fieldLink RX3 7 "PledgedLoansModel" "s" "[I"] ++ wsX30)
def wsX3_pledgedFor : List Cond := .code yX3_pledgedFor cX3_pledgedFor 4 (some .int) :: ([.methodLink RX3 31 yX3_pledgeOf, .instanceMethod yX3_pledgeOf, .selects RX3 yX3_pledgeOf yX3_pledgeOf, .initialized RX3, .code yX3_pledgeOf cX3_pledgeOf 3 (some .int), .fieldLink RX3 7 "PledgedLoansModel" "s" "[I"] ++ wsX30)
def wsX3_own : List Cond := .code yX3_own cX3_own 2 (some .int) :: ([.methodLink RX3 35 yX3_of, .instanceMethod yX3_of, .selects RX3 yX3_of yX3_of, .initialized RX3, .code yX3_of cX3_of 3 (some .int), .fieldLink RX3 7 "PledgedLoansModel" "s" "[I", .methodLink RX3 38 yX3_pledgedBy, .instanceMethod yX3_pledgedBy, .selects RX3 yX3_pledgedBy yX3_pledgedBy, .code yX3_pledgedBy cX3_pledgedBy 4 (some .int), .methodLink RX3 31 yX3_pledgeOf, .instanceMethod yX3_pledgeOf, .selects RX3 yX3_pledgeOf yX3_pledgeOf, .code yX3_pledgeOf cX3_pledgeOf 3 (some .int)] ++ wsX30)
def wsX3_cover : List Cond := .code yX3_cover cX3_cover 2 (some .int) :: ([.methodLink RX3 42 yX3_own, .instanceMethod yX3_own, .selects RX3 yX3_own yX3_own, .initialized RX3, .code yX3_own cX3_own 2 (some .int), .methodLink RX3 35 yX3_of, .instanceMethod yX3_of, .selects RX3 yX3_of yX3_of, .code yX3_of cX3_of 3 (some .int), .fieldLink RX3 7 "PledgedLoansModel" "s" "[I", .methodLink RX3 38 yX3_pledgedBy, .instanceMethod yX3_pledgedBy, .selects RX3 yX3_pledgedBy yX3_pledgedBy, .code yX3_pledgedBy cX3_pledgedBy 4 (some .int), .methodLink RX3 31 yX3_pledgeOf, .instanceMethod yX3_pledgeOf, .selects RX3 yX3_pledgeOf yX3_pledgeOf, .code yX3_pledgeOf cX3_pledgeOf 3 (some .int), .methodLink RX3 45 yX3_pledgedFor, .instanceMethod yX3_pledgedFor, .selects RX3 yX3_pledgedFor yX3_pledgedFor, .code yX3_pledgedFor cX3_pledgedFor 4 (some .int)] ++ wsX30)
def wsX3_free : List Cond := .code yX3_free cX3_free 3 (some .int) :: ([.methodLink RX3 35 yX3_of, .instanceMethod yX3_of, .selects RX3 yX3_of yX3_of, .initialized RX3, .code yX3_of cX3_of 3 (some .int), .fieldLink RX3 7 "PledgedLoansModel" "s" "[I", .methodLink RX3 45 yX3_pledgedFor, .instanceMethod yX3_pledgedFor, .selects RX3 yX3_pledgedFor yX3_pledgedFor, .code yX3_pledgedFor cX3_pledgedFor 4 (some .int), .methodLink RX3 31 yX3_pledgeOf, .instanceMethod yX3_pledgeOf, .selects RX3 yX3_pledgeOf yX3_pledgeOf, .code yX3_pledgeOf cX3_pledgeOf 3 (some .int), .methodLink RX3 42 yX3_own, .instanceMethod yX3_own, .selects RX3 yX3_own yX3_own, .code yX3_own cX3_own 2 (some .int), .methodLink RX3 38 yX3_pledgedBy, .instanceMethod yX3_pledgedBy, .selects RX3 yX3_pledgedBy yX3_pledgedBy, .code yX3_pledgedBy cX3_pledgedBy 4 (some .int)] ++ wsX30)
def wsX3_fee : List Cond := .code yX3_fee cX3_fee 2 (some .int) :: ([])
def wsX3_reason_r1 : List Cond := [Cond.fieldLink RX3 7 "PledgedLoansModel" "s" "[I", Cond.methodLink RX3 35 yX3_of, Cond.instanceMethod yX3_of, Cond.selects RX3 yX3_of yX3_of, Cond.initialized RX3, Cond.code yX3_of cX3_of 3 (some .int), Cond.methodLink RX3 48 yX3_cover, Cond.instanceMethod yX3_cover, Cond.selects RX3 yX3_cover yX3_cover, Cond.code yX3_cover cX3_cover 2 (some .int), Cond.methodLink RX3 42 yX3_own, Cond.instanceMethod yX3_own, Cond.selects RX3 yX3_own yX3_own, Cond.code yX3_own cX3_own 2 (some .int), Cond.methodLink RX3 38 yX3_pledgedBy, Cond.instanceMethod yX3_pledgedBy, Cond.selects RX3 yX3_pledgedBy yX3_pledgedBy, Cond.code yX3_pledgedBy cX3_pledgedBy 4 (some .int), Cond.methodLink RX3 31 yX3_pledgeOf, Cond.instanceMethod yX3_pledgeOf, Cond.selects RX3 yX3_pledgeOf yX3_pledgeOf, Cond.code yX3_pledgeOf cX3_pledgeOf 3 (some .int), Cond.methodLink RX3 45 yX3_pledgedFor, Cond.instanceMethod yX3_pledgedFor]
def wsX3_reason_r2 : List Cond := [Cond.selects RX3 yX3_pledgedFor yX3_pledgedFor, Cond.code yX3_pledgedFor cX3_pledgedFor 4 (some .int), Cond.methodLink RX3 51 yX3_fee, Cond.static yX3_fee, Cond.code yX3_fee cX3_fee 2 (some .int)]
def wsX3_reason : List Cond := .code yX3_reason cX3_reason 3 (some .int) :: ((wsX3_reason_r1 ++ wsX3_reason_r2) ++ wsX30)
def wsX3_refuses : List Cond := .code yX3_refuses cX3_refuses 2 (some .int) :: ([.fieldLink RX3 7 "PledgedLoansModel" "s" "[I"] ++ wsX30)
def wsX3_paysIn : List Cond := .code yX3_paysIn cX3_paysIn 3 (some .int) :: ([.constant RX3 54 (90000), .fieldLink RX3 7 "PledgedLoansModel" "s" "[I", .methodLink RX3 35 yX3_of, .instanceMethod yX3_of, .selects RX3 yX3_of yX3_of, .initialized RX3, .code yX3_of cX3_of 3 (some .int), .methodLink RX3 55 yX3_refuses, .instanceMethod yX3_refuses, .selects RX3 yX3_refuses yX3_refuses, .code yX3_refuses cX3_refuses 2 (some .int), .methodLink RX3 58 yX3_adds, .instanceMethod yX3_adds, .selects RX3 yX3_adds yX3_adds, .code yX3_adds cX3_adds 4 none] ++ wsX30)
def wsX3_paysOut_r1 : List Cond := [Cond.fieldLink RX3 7 "PledgedLoansModel" "s" "[I", Cond.methodLink RX3 62 yX3_free, Cond.instanceMethod yX3_free, Cond.selects RX3 yX3_free yX3_free, Cond.initialized RX3, Cond.code yX3_free cX3_free 3 (some .int), Cond.methodLink RX3 35 yX3_of, Cond.instanceMethod yX3_of, Cond.selects RX3 yX3_of yX3_of, Cond.code yX3_of cX3_of 3 (some .int), Cond.methodLink RX3 45 yX3_pledgedFor, Cond.instanceMethod yX3_pledgedFor, Cond.selects RX3 yX3_pledgedFor yX3_pledgedFor, Cond.code yX3_pledgedFor cX3_pledgedFor 4 (some .int), Cond.methodLink RX3 31 yX3_pledgeOf, Cond.instanceMethod yX3_pledgeOf, Cond.selects RX3 yX3_pledgeOf yX3_pledgeOf, Cond.code yX3_pledgeOf cX3_pledgeOf 3 (some .int), Cond.methodLink RX3 42 yX3_own, Cond.instanceMethod yX3_own, Cond.selects RX3 yX3_own yX3_own, Cond.code yX3_own cX3_own 2 (some .int), Cond.methodLink RX3 38 yX3_pledgedBy, Cond.instanceMethod yX3_pledgedBy]
def wsX3_paysOut_r2 : List Cond := [Cond.selects RX3 yX3_pledgedBy yX3_pledgedBy, Cond.code yX3_pledgedBy cX3_pledgedBy 4 (some .int), Cond.methodLink RX3 55 yX3_refuses, Cond.instanceMethod yX3_refuses, Cond.selects RX3 yX3_refuses yX3_refuses, Cond.code yX3_refuses cX3_refuses 2 (some .int), Cond.methodLink RX3 58 yX3_adds, Cond.instanceMethod yX3_adds, Cond.selects RX3 yX3_adds yX3_adds, Cond.code yX3_adds cX3_adds 4 none]
def wsX3_paysOut : List Cond := .code yX3_paysOut cX3_paysOut 3 (some .int) :: ((wsX3_paysOut_r1 ++ wsX3_paysOut_r2) ++ wsX30)
def wsX3_pledges_r1 : List Cond := [Cond.fieldLink RX3 7 "PledgedLoansModel" "s" "[I", Cond.methodLink RX3 62 yX3_free, Cond.instanceMethod yX3_free, Cond.selects RX3 yX3_free yX3_free, Cond.initialized RX3, Cond.code yX3_free cX3_free 3 (some .int), Cond.methodLink RX3 35 yX3_of, Cond.instanceMethod yX3_of, Cond.selects RX3 yX3_of yX3_of, Cond.code yX3_of cX3_of 3 (some .int), Cond.methodLink RX3 45 yX3_pledgedFor, Cond.instanceMethod yX3_pledgedFor, Cond.selects RX3 yX3_pledgedFor yX3_pledgedFor, Cond.code yX3_pledgedFor cX3_pledgedFor 4 (some .int), Cond.methodLink RX3 31 yX3_pledgeOf, Cond.instanceMethod yX3_pledgeOf, Cond.selects RX3 yX3_pledgeOf yX3_pledgeOf, Cond.code yX3_pledgeOf cX3_pledgeOf 3 (some .int), Cond.methodLink RX3 42 yX3_own, Cond.instanceMethod yX3_own, Cond.selects RX3 yX3_own yX3_own, Cond.code yX3_own cX3_own 2 (some .int), Cond.methodLink RX3 38 yX3_pledgedBy, Cond.instanceMethod yX3_pledgedBy]
def wsX3_pledges_r2 : List Cond := [Cond.selects RX3 yX3_pledgedBy yX3_pledgedBy, Cond.code yX3_pledgedBy cX3_pledgedBy 4 (some .int), Cond.methodLink RX3 55 yX3_refuses, Cond.instanceMethod yX3_refuses, Cond.selects RX3 yX3_refuses yX3_refuses, Cond.code yX3_refuses cX3_refuses 2 (some .int)]
def wsX3_pledges : List Cond := .code yX3_pledges cX3_pledges 4 (some .int) :: ((wsX3_pledges_r1 ++ wsX3_pledges_r2) ++ wsX30)
def wsX3_takesBack_r1 : List Cond := [Cond.fieldLink RX3 7 "PledgedLoansModel" "s" "[I", Cond.methodLink RX3 31 yX3_pledgeOf, Cond.instanceMethod yX3_pledgeOf, Cond.selects RX3 yX3_pledgeOf yX3_pledgeOf, Cond.initialized RX3, Cond.code yX3_pledgeOf cX3_pledgeOf 3 (some .int), Cond.methodLink RX3 55 yX3_refuses, Cond.instanceMethod yX3_refuses, Cond.selects RX3 yX3_refuses yX3_refuses, Cond.code yX3_refuses cX3_refuses 2 (some .int), Cond.methodLink RX3 48 yX3_cover, Cond.instanceMethod yX3_cover, Cond.selects RX3 yX3_cover yX3_cover, Cond.code yX3_cover cX3_cover 2 (some .int), Cond.methodLink RX3 42 yX3_own, Cond.instanceMethod yX3_own, Cond.selects RX3 yX3_own yX3_own, Cond.code yX3_own cX3_own 2 (some .int), Cond.methodLink RX3 35 yX3_of, Cond.instanceMethod yX3_of, Cond.selects RX3 yX3_of yX3_of, Cond.code yX3_of cX3_of 3 (some .int), Cond.methodLink RX3 38 yX3_pledgedBy, Cond.instanceMethod yX3_pledgedBy]
def wsX3_takesBack_r2 : List Cond := [Cond.selects RX3 yX3_pledgedBy yX3_pledgedBy, Cond.code yX3_pledgedBy cX3_pledgedBy 4 (some .int), Cond.methodLink RX3 45 yX3_pledgedFor, Cond.instanceMethod yX3_pledgedFor, Cond.selects RX3 yX3_pledgedFor yX3_pledgedFor, Cond.code yX3_pledgedFor cX3_pledgedFor 4 (some .int)]
def wsX3_takesBack : List Cond := .code yX3_takesBack cX3_takesBack 4 (some .int) :: ((wsX3_takesBack_r1 ++ wsX3_takesBack_r2) ++ wsX30)
def wsX3_lends_r1 : List Cond := [Cond.fieldLink RX3 7 "PledgedLoansModel" "s" "[I", Cond.methodLink RX3 65 yX3_reason, Cond.instanceMethod yX3_reason, Cond.selects RX3 yX3_reason yX3_reason, Cond.initialized RX3, Cond.code yX3_reason cX3_reason 3 (some .int), Cond.methodLink RX3 35 yX3_of, Cond.instanceMethod yX3_of, Cond.selects RX3 yX3_of yX3_of, Cond.code yX3_of cX3_of 3 (some .int), Cond.methodLink RX3 48 yX3_cover, Cond.instanceMethod yX3_cover, Cond.selects RX3 yX3_cover yX3_cover, Cond.code yX3_cover cX3_cover 2 (some .int), Cond.methodLink RX3 42 yX3_own, Cond.instanceMethod yX3_own, Cond.selects RX3 yX3_own yX3_own, Cond.code yX3_own cX3_own 2 (some .int), Cond.methodLink RX3 38 yX3_pledgedBy, Cond.instanceMethod yX3_pledgedBy, Cond.selects RX3 yX3_pledgedBy yX3_pledgedBy, Cond.code yX3_pledgedBy cX3_pledgedBy 4 (some .int), Cond.methodLink RX3 31 yX3_pledgeOf, Cond.instanceMethod yX3_pledgeOf]
def wsX3_lends_r2 : List Cond := [Cond.selects RX3 yX3_pledgeOf yX3_pledgeOf, Cond.code yX3_pledgeOf cX3_pledgeOf 3 (some .int), Cond.methodLink RX3 45 yX3_pledgedFor, Cond.instanceMethod yX3_pledgedFor, Cond.selects RX3 yX3_pledgedFor yX3_pledgedFor, Cond.code yX3_pledgedFor cX3_pledgedFor 4 (some .int), Cond.methodLink RX3 51 yX3_fee, Cond.static yX3_fee, Cond.code yX3_fee cX3_fee 2 (some .int), Cond.methodLink RX3 55 yX3_refuses, Cond.instanceMethod yX3_refuses, Cond.selects RX3 yX3_refuses yX3_refuses, Cond.code yX3_refuses cX3_refuses 2 (some .int), Cond.methodLink RX3 58 yX3_adds, Cond.instanceMethod yX3_adds, Cond.selects RX3 yX3_adds yX3_adds, Cond.code yX3_adds cX3_adds 4 none]
def wsX3_lends : List Cond := .code yX3_lends cX3_lends 6 (some .int) :: ((wsX3_lends_r1 ++ wsX3_lends_r2) ++ wsX30)
def wsX3_repays : List Cond := .code yX3_repays cX3_repays 3 (some .int) :: ([.fieldLink RX3 7 "PledgedLoansModel" "s" "[I", .methodLink RX3 35 yX3_of, .instanceMethod yX3_of, .selects RX3 yX3_of yX3_of, .initialized RX3, .code yX3_of cX3_of 3 (some .int), .methodLink RX3 55 yX3_refuses, .instanceMethod yX3_refuses, .selects RX3 yX3_refuses yX3_refuses, .code yX3_refuses cX3_refuses 2 (some .int), .methodLink RX3 58 yX3_adds, .instanceMethod yX3_adds, .selects RX3 yX3_adds yX3_adds, .code yX3_adds cX3_adds 4 none] ++ wsX30)
def wsX3_takes : List Cond := .code yX3_takes cX3_takes 5 (some .int) :: ([.methodLink RX3 35 yX3_of, .instanceMethod yX3_of, .selects RX3 yX3_of yX3_of, .initialized RX3, .code yX3_of cX3_of 3 (some .int), .fieldLink RX3 7 "PledgedLoansModel" "s" "[I", .methodLink RX3 58 yX3_adds, .instanceMethod yX3_adds, .selects RX3 yX3_adds yX3_adds, .code yX3_adds cX3_adds 4 none] ++ wsX30)
def wsX3_fallsDue_r1 : List Cond := [Cond.fieldLink RX3 7 "PledgedLoansModel" "s" "[I", Cond.methodLink RX3 42 yX3_own, Cond.instanceMethod yX3_own, Cond.selects RX3 yX3_own yX3_own, Cond.initialized RX3, Cond.code yX3_own cX3_own 2 (some .int), Cond.methodLink RX3 35 yX3_of, Cond.instanceMethod yX3_of, Cond.selects RX3 yX3_of yX3_of, Cond.code yX3_of cX3_of 3 (some .int), Cond.methodLink RX3 38 yX3_pledgedBy, Cond.instanceMethod yX3_pledgedBy, Cond.selects RX3 yX3_pledgedBy yX3_pledgedBy, Cond.code yX3_pledgedBy cX3_pledgedBy 4 (some .int), Cond.methodLink RX3 31 yX3_pledgeOf, Cond.instanceMethod yX3_pledgeOf, Cond.selects RX3 yX3_pledgeOf yX3_pledgeOf, Cond.code yX3_pledgeOf cX3_pledgeOf 3 (some .int), Cond.methodLink RX3 68 yX3_takes, Cond.instanceMethod yX3_takes, Cond.selects RX3 yX3_takes yX3_takes, Cond.code yX3_takes cX3_takes 5 (some .int), Cond.methodLink RX3 58 yX3_adds, Cond.instanceMethod yX3_adds]
def wsX3_fallsDue_r2 : List Cond := [Cond.selects RX3 yX3_adds yX3_adds, Cond.code yX3_adds cX3_adds 4 none]
def wsX3_fallsDue : List Cond := .code yX3_fallsDue cX3_fallsDue 3 none :: ((wsX3_fallsDue_r1 ++ wsX3_fallsDue_r2) ++ wsX30)
def wsX3_endsWeek_r1 : List Cond := [Cond.fieldLink RX3 7 "PledgedLoansModel" "s" "[I", Cond.methodLink RX3 35 yX3_of, Cond.instanceMethod yX3_of, Cond.selects RX3 yX3_of yX3_of, Cond.initialized RX3, Cond.code yX3_of cX3_of 3 (some .int), Cond.methodLink RX3 58 yX3_adds, Cond.instanceMethod yX3_adds, Cond.selects RX3 yX3_adds yX3_adds, Cond.code yX3_adds cX3_adds 4 none, Cond.methodLink RX3 72 yX3_fallsDue, Cond.instanceMethod yX3_fallsDue, Cond.selects RX3 yX3_fallsDue yX3_fallsDue, Cond.code yX3_fallsDue cX3_fallsDue 3 none, Cond.methodLink RX3 42 yX3_own, Cond.instanceMethod yX3_own, Cond.selects RX3 yX3_own yX3_own, Cond.code yX3_own cX3_own 2 (some .int), Cond.methodLink RX3 38 yX3_pledgedBy, Cond.instanceMethod yX3_pledgedBy, Cond.selects RX3 yX3_pledgedBy yX3_pledgedBy, Cond.code yX3_pledgedBy cX3_pledgedBy 4 (some .int), Cond.methodLink RX3 31 yX3_pledgeOf, Cond.instanceMethod yX3_pledgeOf]
def wsX3_endsWeek_r2 : List Cond := [Cond.selects RX3 yX3_pledgeOf yX3_pledgeOf, Cond.code yX3_pledgeOf cX3_pledgeOf 3 (some .int), Cond.methodLink RX3 68 yX3_takes, Cond.instanceMethod yX3_takes, Cond.selects RX3 yX3_takes yX3_takes, Cond.code yX3_takes cX3_takes 5 (some .int)]
def wsX3_endsWeek : List Cond := .code yX3_endsWeek cX3_endsWeek 4 (some .int) :: ((wsX3_endsWeek_r1 ++ wsX3_endsWeek_r2) ++ wsX30)
def wsX3_allDays : List Cond := .code yX3_allDays cX3_allDays 4 (some .long) :: ([.methodLink RX3 35 yX3_of, .instanceMethod yX3_of, .selects RX3 yX3_of yX3_of, .initialized RX3, .code yX3_of cX3_of 3 (some .int), .fieldLink RX3 7 "PledgedLoansModel" "s" "[I"] ++ wsX30)
def wsX3_share : List Cond := .code yX3_share cX3_share 4 (some .int) :: ([.fieldLink RX3 7 "PledgedLoansModel" "s" "[I", .methodLink RX3 76 yX3_allDays, .instanceMethod yX3_allDays, .selects RX3 yX3_allDays yX3_allDays, .initialized RX3, .code yX3_allDays cX3_allDays 4 (some .long), .methodLink RX3 35 yX3_of, .instanceMethod yX3_of, .selects RX3 yX3_of yX3_of, .code yX3_of cX3_of 3 (some .int)] ++ wsX30)
def wsX3_copies : List Cond := .code yX3_copies cX3_copies 4 none :: ([.fieldLink RX3 7 "PledgedLoansModel" "s" "[I"] ++ wsX30)
def wsX3_save : List Cond := .code yX3_save cX3_save 2 none :: ([.fieldLink RX3 80 "PledgedLoansModel" "saved" "I", .methodLink RX3 83 yX3_copies, .instanceMethod yX3_copies, .selects RX3 yX3_copies yX3_copies, .initialized RX3, .code yX3_copies cX3_copies 4 none, .fieldLink RX3 7 "PledgedLoansModel" "s" "[I"] ++ wsX30)
def wsX3_isDeed : List Cond := .code yX3_isDeed cX3_isDeed 3 (some .boolean) :: ([.methodLink RX3 87 yX3_isMember, .static yX3_isMember, .initialized RX3, .code yX3_isMember cX3_isMember 1 (some .boolean), .methodLink RX3 27 yX3_in, .static yX3_in, .code yX3_in cX3_in 3 (some .boolean), .methodLink RX3 91 yX3_isAmount, .static yX3_isAmount, .code yX3_isAmount cX3_isAmount 1 (some .boolean), .methodLink RX3 94 yX3_holds, .instanceMethod yX3_holds, .selects RX3 yX3_holds yX3_holds, .code yX3_holds cX3_holds 2 (some .boolean), .fieldLink RX3 23 "PledgedLoansModel" "thrown" "I"] ++ wsX30)
def wsX3_payIn_r1 : List Cond := [Cond.methodLink RX3 97 yX3_isDeed, Cond.instanceMethod yX3_isDeed, Cond.selects RX3 yX3_isDeed yX3_isDeed, Cond.initialized RX3, Cond.code yX3_isDeed cX3_isDeed 3 (some .boolean), Cond.methodLink RX3 87 yX3_isMember, Cond.static yX3_isMember, Cond.code yX3_isMember cX3_isMember 1 (some .boolean), Cond.methodLink RX3 27 yX3_in, Cond.static yX3_in, Cond.code yX3_in cX3_in 3 (some .boolean), Cond.methodLink RX3 91 yX3_isAmount, Cond.static yX3_isAmount, Cond.code yX3_isAmount cX3_isAmount 1 (some .boolean), Cond.methodLink RX3 94 yX3_holds, Cond.instanceMethod yX3_holds, Cond.selects RX3 yX3_holds yX3_holds, Cond.code yX3_holds cX3_holds 2 (some .boolean), Cond.fieldLink RX3 23 "PledgedLoansModel" "thrown" "I", Cond.methodLink RX3 101 yX3_save, Cond.instanceMethod yX3_save, Cond.selects RX3 yX3_save yX3_save, Cond.code yX3_save cX3_save 2 none, Cond.fieldLink RX3 80 "PledgedLoansModel" "saved" "I"]
def wsX3_payIn_r2 : List Cond := [Cond.methodLink RX3 83 yX3_copies, Cond.instanceMethod yX3_copies, Cond.selects RX3 yX3_copies yX3_copies, Cond.code yX3_copies cX3_copies 4 none, Cond.fieldLink RX3 7 "PledgedLoansModel" "s" "[I", Cond.methodLink RX3 104 yX3_paysIn, Cond.instanceMethod yX3_paysIn, Cond.selects RX3 yX3_paysIn yX3_paysIn, Cond.code yX3_paysIn cX3_paysIn 3 (some .int), Cond.constant RX3 54 (90000), Cond.methodLink RX3 35 yX3_of, Cond.instanceMethod yX3_of, Cond.selects RX3 yX3_of yX3_of, Cond.code yX3_of cX3_of 3 (some .int), Cond.methodLink RX3 55 yX3_refuses, Cond.instanceMethod yX3_refuses, Cond.selects RX3 yX3_refuses yX3_refuses, Cond.code yX3_refuses cX3_refuses 2 (some .int), Cond.methodLink RX3 58 yX3_adds, Cond.instanceMethod yX3_adds, Cond.selects RX3 yX3_adds yX3_adds, Cond.code yX3_adds cX3_adds 4 none]
def wsX3_payIn : List Cond := .code yX3_payIn cX3_payIn 3 (some .int) :: ((wsX3_payIn_r1 ++ wsX3_payIn_r2) ++ wsX30)
def wsX3_payOut_r1 : List Cond := [Cond.methodLink RX3 97 yX3_isDeed, Cond.instanceMethod yX3_isDeed, Cond.selects RX3 yX3_isDeed yX3_isDeed, Cond.initialized RX3, Cond.code yX3_isDeed cX3_isDeed 3 (some .boolean), Cond.methodLink RX3 87 yX3_isMember, Cond.static yX3_isMember, Cond.code yX3_isMember cX3_isMember 1 (some .boolean), Cond.methodLink RX3 27 yX3_in, Cond.static yX3_in, Cond.code yX3_in cX3_in 3 (some .boolean), Cond.methodLink RX3 91 yX3_isAmount, Cond.static yX3_isAmount, Cond.code yX3_isAmount cX3_isAmount 1 (some .boolean), Cond.methodLink RX3 94 yX3_holds, Cond.instanceMethod yX3_holds, Cond.selects RX3 yX3_holds yX3_holds, Cond.code yX3_holds cX3_holds 2 (some .boolean), Cond.fieldLink RX3 23 "PledgedLoansModel" "thrown" "I", Cond.methodLink RX3 101 yX3_save, Cond.instanceMethod yX3_save, Cond.selects RX3 yX3_save yX3_save, Cond.code yX3_save cX3_save 2 none, Cond.fieldLink RX3 80 "PledgedLoansModel" "saved" "I"]
def wsX3_payOut_r2 : List Cond := [Cond.methodLink RX3 83 yX3_copies, Cond.instanceMethod yX3_copies, Cond.selects RX3 yX3_copies yX3_copies, Cond.code yX3_copies cX3_copies 4 none, Cond.fieldLink RX3 7 "PledgedLoansModel" "s" "[I", Cond.methodLink RX3 107 yX3_paysOut, Cond.instanceMethod yX3_paysOut, Cond.selects RX3 yX3_paysOut yX3_paysOut, Cond.code yX3_paysOut cX3_paysOut 3 (some .int), Cond.methodLink RX3 62 yX3_free, Cond.instanceMethod yX3_free, Cond.selects RX3 yX3_free yX3_free, Cond.code yX3_free cX3_free 3 (some .int), Cond.methodLink RX3 35 yX3_of, Cond.instanceMethod yX3_of, Cond.selects RX3 yX3_of yX3_of, Cond.code yX3_of cX3_of 3 (some .int), Cond.methodLink RX3 45 yX3_pledgedFor, Cond.instanceMethod yX3_pledgedFor, Cond.selects RX3 yX3_pledgedFor yX3_pledgedFor, Cond.code yX3_pledgedFor cX3_pledgedFor 4 (some .int), Cond.methodLink RX3 31 yX3_pledgeOf, Cond.instanceMethod yX3_pledgeOf, Cond.selects RX3 yX3_pledgeOf yX3_pledgeOf]
def wsX3_payOut_r3 : List Cond := [Cond.code yX3_pledgeOf cX3_pledgeOf 3 (some .int), Cond.methodLink RX3 42 yX3_own, Cond.instanceMethod yX3_own, Cond.selects RX3 yX3_own yX3_own, Cond.code yX3_own cX3_own 2 (some .int), Cond.methodLink RX3 38 yX3_pledgedBy, Cond.instanceMethod yX3_pledgedBy, Cond.selects RX3 yX3_pledgedBy yX3_pledgedBy, Cond.code yX3_pledgedBy cX3_pledgedBy 4 (some .int), Cond.methodLink RX3 55 yX3_refuses, Cond.instanceMethod yX3_refuses, Cond.selects RX3 yX3_refuses yX3_refuses, Cond.code yX3_refuses cX3_refuses 2 (some .int), Cond.methodLink RX3 58 yX3_adds, Cond.instanceMethod yX3_adds, Cond.selects RX3 yX3_adds yX3_adds, Cond.code yX3_adds cX3_adds 4 none]
def wsX3_payOut : List Cond := .code yX3_payOut cX3_payOut 3 (some .int) :: ((wsX3_payOut_r1 ++ (wsX3_payOut_r2 ++ wsX3_payOut_r3)) ++ wsX30)
def wsX3_isPair : List Cond := .code yX3_isPair cX3_isPair 5 (some .boolean) :: ([.methodLink RX3 87 yX3_isMember, .static yX3_isMember, .initialized RX3, .code yX3_isMember cX3_isMember 1 (some .boolean), .methodLink RX3 27 yX3_in, .static yX3_in, .code yX3_in cX3_in 3 (some .boolean), .methodLink RX3 91 yX3_isAmount, .static yX3_isAmount, .code yX3_isAmount cX3_isAmount 1 (some .boolean), .methodLink RX3 94 yX3_holds, .instanceMethod yX3_holds, .selects RX3 yX3_holds yX3_holds, .code yX3_holds cX3_holds 2 (some .boolean), .fieldLink RX3 23 "PledgedLoansModel" "thrown" "I"] ++ wsX30)
def wsX3_pledge_r1 : List Cond := [Cond.methodLink RX3 110 yX3_isPair, Cond.instanceMethod yX3_isPair, Cond.selects RX3 yX3_isPair yX3_isPair, Cond.initialized RX3, Cond.code yX3_isPair cX3_isPair 5 (some .boolean), Cond.methodLink RX3 87 yX3_isMember, Cond.static yX3_isMember, Cond.code yX3_isMember cX3_isMember 1 (some .boolean), Cond.methodLink RX3 27 yX3_in, Cond.static yX3_in, Cond.code yX3_in cX3_in 3 (some .boolean), Cond.methodLink RX3 91 yX3_isAmount, Cond.static yX3_isAmount, Cond.code yX3_isAmount cX3_isAmount 1 (some .boolean), Cond.methodLink RX3 94 yX3_holds, Cond.instanceMethod yX3_holds, Cond.selects RX3 yX3_holds yX3_holds, Cond.code yX3_holds cX3_holds 2 (some .boolean), Cond.fieldLink RX3 23 "PledgedLoansModel" "thrown" "I", Cond.methodLink RX3 101 yX3_save, Cond.instanceMethod yX3_save, Cond.selects RX3 yX3_save yX3_save, Cond.code yX3_save cX3_save 2 none, Cond.fieldLink RX3 80 "PledgedLoansModel" "saved" "I"]
def wsX3_pledge_r2 : List Cond := [Cond.methodLink RX3 83 yX3_copies, Cond.instanceMethod yX3_copies, Cond.selects RX3 yX3_copies yX3_copies, Cond.code yX3_copies cX3_copies 4 none, Cond.fieldLink RX3 7 "PledgedLoansModel" "s" "[I", Cond.methodLink RX3 113 yX3_pledges, Cond.instanceMethod yX3_pledges, Cond.selects RX3 yX3_pledges yX3_pledges, Cond.code yX3_pledges cX3_pledges 4 (some .int), Cond.methodLink RX3 62 yX3_free, Cond.instanceMethod yX3_free, Cond.selects RX3 yX3_free yX3_free, Cond.code yX3_free cX3_free 3 (some .int), Cond.methodLink RX3 35 yX3_of, Cond.instanceMethod yX3_of, Cond.selects RX3 yX3_of yX3_of, Cond.code yX3_of cX3_of 3 (some .int), Cond.methodLink RX3 45 yX3_pledgedFor, Cond.instanceMethod yX3_pledgedFor, Cond.selects RX3 yX3_pledgedFor yX3_pledgedFor, Cond.code yX3_pledgedFor cX3_pledgedFor 4 (some .int), Cond.methodLink RX3 31 yX3_pledgeOf, Cond.instanceMethod yX3_pledgeOf, Cond.selects RX3 yX3_pledgeOf yX3_pledgeOf]
def wsX3_pledge_r3 : List Cond := [Cond.code yX3_pledgeOf cX3_pledgeOf 3 (some .int), Cond.methodLink RX3 42 yX3_own, Cond.instanceMethod yX3_own, Cond.selects RX3 yX3_own yX3_own, Cond.code yX3_own cX3_own 2 (some .int), Cond.methodLink RX3 38 yX3_pledgedBy, Cond.instanceMethod yX3_pledgedBy, Cond.selects RX3 yX3_pledgedBy yX3_pledgedBy, Cond.code yX3_pledgedBy cX3_pledgedBy 4 (some .int), Cond.methodLink RX3 55 yX3_refuses, Cond.instanceMethod yX3_refuses, Cond.selects RX3 yX3_refuses yX3_refuses, Cond.code yX3_refuses cX3_refuses 2 (some .int)]
def wsX3_pledge : List Cond := .code yX3_pledge cX3_pledge 4 (some .int) :: ((wsX3_pledge_r1 ++ (wsX3_pledge_r2 ++ wsX3_pledge_r3)) ++ wsX30)
def wsX3_unpledge_r1 : List Cond := [Cond.methodLink RX3 110 yX3_isPair, Cond.instanceMethod yX3_isPair, Cond.selects RX3 yX3_isPair yX3_isPair, Cond.initialized RX3, Cond.code yX3_isPair cX3_isPair 5 (some .boolean), Cond.methodLink RX3 87 yX3_isMember, Cond.static yX3_isMember, Cond.code yX3_isMember cX3_isMember 1 (some .boolean), Cond.methodLink RX3 27 yX3_in, Cond.static yX3_in, Cond.code yX3_in cX3_in 3 (some .boolean), Cond.methodLink RX3 91 yX3_isAmount, Cond.static yX3_isAmount, Cond.code yX3_isAmount cX3_isAmount 1 (some .boolean), Cond.methodLink RX3 94 yX3_holds, Cond.instanceMethod yX3_holds, Cond.selects RX3 yX3_holds yX3_holds, Cond.code yX3_holds cX3_holds 2 (some .boolean), Cond.fieldLink RX3 23 "PledgedLoansModel" "thrown" "I", Cond.methodLink RX3 101 yX3_save, Cond.instanceMethod yX3_save, Cond.selects RX3 yX3_save yX3_save, Cond.code yX3_save cX3_save 2 none, Cond.fieldLink RX3 80 "PledgedLoansModel" "saved" "I"]
def wsX3_unpledge_r2 : List Cond := [Cond.methodLink RX3 83 yX3_copies, Cond.instanceMethod yX3_copies, Cond.selects RX3 yX3_copies yX3_copies, Cond.code yX3_copies cX3_copies 4 none, Cond.fieldLink RX3 7 "PledgedLoansModel" "s" "[I", Cond.methodLink RX3 116 yX3_takesBack, Cond.instanceMethod yX3_takesBack, Cond.selects RX3 yX3_takesBack yX3_takesBack, Cond.code yX3_takesBack cX3_takesBack 4 (some .int), Cond.methodLink RX3 31 yX3_pledgeOf, Cond.instanceMethod yX3_pledgeOf, Cond.selects RX3 yX3_pledgeOf yX3_pledgeOf, Cond.code yX3_pledgeOf cX3_pledgeOf 3 (some .int), Cond.methodLink RX3 55 yX3_refuses, Cond.instanceMethod yX3_refuses, Cond.selects RX3 yX3_refuses yX3_refuses, Cond.code yX3_refuses cX3_refuses 2 (some .int), Cond.methodLink RX3 48 yX3_cover, Cond.instanceMethod yX3_cover, Cond.selects RX3 yX3_cover yX3_cover, Cond.code yX3_cover cX3_cover 2 (some .int), Cond.methodLink RX3 42 yX3_own, Cond.instanceMethod yX3_own, Cond.selects RX3 yX3_own yX3_own]
def wsX3_unpledge_r3 : List Cond := [Cond.code yX3_own cX3_own 2 (some .int), Cond.methodLink RX3 35 yX3_of, Cond.instanceMethod yX3_of, Cond.selects RX3 yX3_of yX3_of, Cond.code yX3_of cX3_of 3 (some .int), Cond.methodLink RX3 38 yX3_pledgedBy, Cond.instanceMethod yX3_pledgedBy, Cond.selects RX3 yX3_pledgedBy yX3_pledgedBy, Cond.code yX3_pledgedBy cX3_pledgedBy 4 (some .int), Cond.methodLink RX3 45 yX3_pledgedFor, Cond.instanceMethod yX3_pledgedFor, Cond.selects RX3 yX3_pledgedFor yX3_pledgedFor, Cond.code yX3_pledgedFor cX3_pledgedFor 4 (some .int)]
def wsX3_unpledge : List Cond := .code yX3_unpledge cX3_unpledge 4 (some .int) :: ((wsX3_unpledge_r1 ++ (wsX3_unpledge_r2 ++ wsX3_unpledge_r3)) ++ wsX30)
def wsX3_borrow_r1 : List Cond := [Cond.methodLink RX3 91 yX3_isAmount, Cond.static yX3_isAmount, Cond.initialized RX3, Cond.code yX3_isAmount cX3_isAmount 1 (some .boolean), Cond.methodLink RX3 27 yX3_in, Cond.static yX3_in, Cond.code yX3_in cX3_in 3 (some .boolean), Cond.methodLink RX3 87 yX3_isMember, Cond.static yX3_isMember, Cond.code yX3_isMember cX3_isMember 1 (some .boolean), Cond.methodLink RX3 94 yX3_holds, Cond.instanceMethod yX3_holds, Cond.selects RX3 yX3_holds yX3_holds, Cond.code yX3_holds cX3_holds 2 (some .boolean), Cond.fieldLink RX3 23 "PledgedLoansModel" "thrown" "I", Cond.methodLink RX3 101 yX3_save, Cond.instanceMethod yX3_save, Cond.selects RX3 yX3_save yX3_save, Cond.code yX3_save cX3_save 2 none, Cond.fieldLink RX3 80 "PledgedLoansModel" "saved" "I", Cond.methodLink RX3 83 yX3_copies, Cond.instanceMethod yX3_copies, Cond.selects RX3 yX3_copies yX3_copies, Cond.code yX3_copies cX3_copies 4 none]
def wsX3_borrow_r2 : List Cond := [Cond.fieldLink RX3 7 "PledgedLoansModel" "s" "[I", Cond.methodLink RX3 119 yX3_lends, Cond.instanceMethod yX3_lends, Cond.selects RX3 yX3_lends yX3_lends, Cond.code yX3_lends cX3_lends 6 (some .int), Cond.methodLink RX3 65 yX3_reason, Cond.instanceMethod yX3_reason, Cond.selects RX3 yX3_reason yX3_reason, Cond.code yX3_reason cX3_reason 3 (some .int), Cond.methodLink RX3 35 yX3_of, Cond.instanceMethod yX3_of, Cond.selects RX3 yX3_of yX3_of, Cond.code yX3_of cX3_of 3 (some .int), Cond.methodLink RX3 48 yX3_cover, Cond.instanceMethod yX3_cover, Cond.selects RX3 yX3_cover yX3_cover, Cond.code yX3_cover cX3_cover 2 (some .int), Cond.methodLink RX3 42 yX3_own, Cond.instanceMethod yX3_own, Cond.selects RX3 yX3_own yX3_own, Cond.code yX3_own cX3_own 2 (some .int), Cond.methodLink RX3 38 yX3_pledgedBy, Cond.instanceMethod yX3_pledgedBy, Cond.selects RX3 yX3_pledgedBy yX3_pledgedBy]
def wsX3_borrow_r3 : List Cond := [Cond.code yX3_pledgedBy cX3_pledgedBy 4 (some .int), Cond.methodLink RX3 31 yX3_pledgeOf, Cond.instanceMethod yX3_pledgeOf, Cond.selects RX3 yX3_pledgeOf yX3_pledgeOf, Cond.code yX3_pledgeOf cX3_pledgeOf 3 (some .int), Cond.methodLink RX3 45 yX3_pledgedFor, Cond.instanceMethod yX3_pledgedFor, Cond.selects RX3 yX3_pledgedFor yX3_pledgedFor, Cond.code yX3_pledgedFor cX3_pledgedFor 4 (some .int), Cond.methodLink RX3 51 yX3_fee, Cond.static yX3_fee, Cond.code yX3_fee cX3_fee 2 (some .int), Cond.methodLink RX3 55 yX3_refuses, Cond.instanceMethod yX3_refuses, Cond.selects RX3 yX3_refuses yX3_refuses, Cond.code yX3_refuses cX3_refuses 2 (some .int), Cond.methodLink RX3 58 yX3_adds, Cond.instanceMethod yX3_adds, Cond.selects RX3 yX3_adds yX3_adds, Cond.code yX3_adds cX3_adds 4 none]
def wsX3_borrow : List Cond := .code yX3_borrow cX3_borrow 5 (some .int) :: ((wsX3_borrow_r1 ++ (wsX3_borrow_r2 ++ wsX3_borrow_r3)) ++ wsX30)
def wsX3_repay_r1 : List Cond := [Cond.methodLink RX3 97 yX3_isDeed, Cond.instanceMethod yX3_isDeed, Cond.selects RX3 yX3_isDeed yX3_isDeed, Cond.initialized RX3, Cond.code yX3_isDeed cX3_isDeed 3 (some .boolean), Cond.methodLink RX3 87 yX3_isMember, Cond.static yX3_isMember, Cond.code yX3_isMember cX3_isMember 1 (some .boolean), Cond.methodLink RX3 27 yX3_in, Cond.static yX3_in, Cond.code yX3_in cX3_in 3 (some .boolean), Cond.methodLink RX3 91 yX3_isAmount, Cond.static yX3_isAmount, Cond.code yX3_isAmount cX3_isAmount 1 (some .boolean), Cond.methodLink RX3 94 yX3_holds, Cond.instanceMethod yX3_holds, Cond.selects RX3 yX3_holds yX3_holds, Cond.code yX3_holds cX3_holds 2 (some .boolean), Cond.fieldLink RX3 23 "PledgedLoansModel" "thrown" "I", Cond.methodLink RX3 101 yX3_save, Cond.instanceMethod yX3_save, Cond.selects RX3 yX3_save yX3_save, Cond.code yX3_save cX3_save 2 none, Cond.fieldLink RX3 80 "PledgedLoansModel" "saved" "I"]
def wsX3_repay_r2 : List Cond := [Cond.methodLink RX3 83 yX3_copies, Cond.instanceMethod yX3_copies, Cond.selects RX3 yX3_copies yX3_copies, Cond.code yX3_copies cX3_copies 4 none, Cond.fieldLink RX3 7 "PledgedLoansModel" "s" "[I", Cond.methodLink RX3 122 yX3_repays, Cond.instanceMethod yX3_repays, Cond.selects RX3 yX3_repays yX3_repays, Cond.code yX3_repays cX3_repays 3 (some .int), Cond.methodLink RX3 35 yX3_of, Cond.instanceMethod yX3_of, Cond.selects RX3 yX3_of yX3_of, Cond.code yX3_of cX3_of 3 (some .int), Cond.methodLink RX3 55 yX3_refuses, Cond.instanceMethod yX3_refuses, Cond.selects RX3 yX3_refuses yX3_refuses, Cond.code yX3_refuses cX3_refuses 2 (some .int), Cond.methodLink RX3 58 yX3_adds, Cond.instanceMethod yX3_adds, Cond.selects RX3 yX3_adds yX3_adds, Cond.code yX3_adds cX3_adds 4 none]
def wsX3_repay : List Cond := .code yX3_repay cX3_repay 3 (some .int) :: ((wsX3_repay_r1 ++ wsX3_repay_r2) ++ wsX30)
def wsX3_week_r1 : List Cond := [Cond.fieldLink RX3 7 "PledgedLoansModel" "s" "[I", Cond.methodLink RX3 94 yX3_holds, Cond.instanceMethod yX3_holds, Cond.selects RX3 yX3_holds yX3_holds, Cond.initialized RX3, Cond.code yX3_holds cX3_holds 2 (some .boolean), Cond.fieldLink RX3 23 "PledgedLoansModel" "thrown" "I", Cond.methodLink RX3 101 yX3_save, Cond.instanceMethod yX3_save, Cond.selects RX3 yX3_save yX3_save, Cond.code yX3_save cX3_save 2 none, Cond.fieldLink RX3 80 "PledgedLoansModel" "saved" "I", Cond.methodLink RX3 83 yX3_copies, Cond.instanceMethod yX3_copies, Cond.selects RX3 yX3_copies yX3_copies, Cond.code yX3_copies cX3_copies 4 none, Cond.methodLink RX3 125 yX3_endsWeek, Cond.instanceMethod yX3_endsWeek, Cond.selects RX3 yX3_endsWeek yX3_endsWeek, Cond.code yX3_endsWeek cX3_endsWeek 4 (some .int), Cond.methodLink RX3 35 yX3_of, Cond.instanceMethod yX3_of, Cond.selects RX3 yX3_of yX3_of, Cond.code yX3_of cX3_of 3 (some .int)]
def wsX3_week_r2 : List Cond := [Cond.methodLink RX3 58 yX3_adds, Cond.instanceMethod yX3_adds, Cond.selects RX3 yX3_adds yX3_adds, Cond.code yX3_adds cX3_adds 4 none, Cond.methodLink RX3 72 yX3_fallsDue, Cond.instanceMethod yX3_fallsDue, Cond.selects RX3 yX3_fallsDue yX3_fallsDue, Cond.code yX3_fallsDue cX3_fallsDue 3 none, Cond.methodLink RX3 42 yX3_own, Cond.instanceMethod yX3_own, Cond.selects RX3 yX3_own yX3_own, Cond.code yX3_own cX3_own 2 (some .int), Cond.methodLink RX3 38 yX3_pledgedBy, Cond.instanceMethod yX3_pledgedBy, Cond.selects RX3 yX3_pledgedBy yX3_pledgedBy, Cond.code yX3_pledgedBy cX3_pledgedBy 4 (some .int), Cond.methodLink RX3 31 yX3_pledgeOf, Cond.instanceMethod yX3_pledgeOf, Cond.selects RX3 yX3_pledgeOf yX3_pledgeOf, Cond.code yX3_pledgeOf cX3_pledgeOf 3 (some .int), Cond.methodLink RX3 68 yX3_takes, Cond.instanceMethod yX3_takes, Cond.selects RX3 yX3_takes yX3_takes, Cond.code yX3_takes cX3_takes 5 (some .int)]
def wsX3_week : List Cond := .code yX3_week cX3_week 1 (some .int) :: ((wsX3_week_r1 ++ wsX3_week_r2) ++ wsX30)
def wsX3_pass_r1 : List Cond := [Cond.fieldLink RX3 7 "PledgedLoansModel" "s" "[I", Cond.constantLong RX3 129 (100000000), Cond.methodLink RX3 35 yX3_of, Cond.instanceMethod yX3_of, Cond.selects RX3 yX3_of yX3_of, Cond.initialized RX3, Cond.code yX3_of cX3_of 3 (some .int), Cond.methodLink RX3 27 yX3_in, Cond.static yX3_in, Cond.code yX3_in cX3_in 3 (some .boolean), Cond.methodLink RX3 94 yX3_holds, Cond.instanceMethod yX3_holds, Cond.selects RX3 yX3_holds yX3_holds, Cond.code yX3_holds cX3_holds 2 (some .boolean), Cond.fieldLink RX3 23 "PledgedLoansModel" "thrown" "I", Cond.methodLink RX3 101 yX3_save, Cond.instanceMethod yX3_save, Cond.selects RX3 yX3_save yX3_save, Cond.code yX3_save cX3_save 2 none, Cond.fieldLink RX3 80 "PledgedLoansModel" "saved" "I", Cond.methodLink RX3 83 yX3_copies, Cond.instanceMethod yX3_copies, Cond.selects RX3 yX3_copies yX3_copies, Cond.code yX3_copies cX3_copies 4 none]
def wsX3_pass_r2 : List Cond := [Cond.methodLink RX3 58 yX3_adds, Cond.instanceMethod yX3_adds, Cond.selects RX3 yX3_adds yX3_adds, Cond.code yX3_adds cX3_adds 4 none]
def wsX3_pass : List Cond := .code yX3_pass cX3_pass 4 (some .int) :: ((wsX3_pass_r1 ++ wsX3_pass_r2) ++ wsX30)
def wsX3_dividend_r1 : List Cond := [Cond.fieldLink RX3 23 "PledgedLoansModel" "thrown" "I", Cond.fieldLink RX3 7 "PledgedLoansModel" "s" "[I", Cond.methodLink RX3 101 yX3_save, Cond.instanceMethod yX3_save, Cond.selects RX3 yX3_save yX3_save, Cond.initialized RX3, Cond.code yX3_save cX3_save 2 none, Cond.fieldLink RX3 80 "PledgedLoansModel" "saved" "I", Cond.methodLink RX3 83 yX3_copies, Cond.instanceMethod yX3_copies, Cond.selects RX3 yX3_copies yX3_copies, Cond.code yX3_copies cX3_copies 4 none, Cond.methodLink RX3 76 yX3_allDays, Cond.instanceMethod yX3_allDays, Cond.selects RX3 yX3_allDays yX3_allDays, Cond.code yX3_allDays cX3_allDays 4 (some .long), Cond.methodLink RX3 35 yX3_of, Cond.instanceMethod yX3_of, Cond.selects RX3 yX3_of yX3_of, Cond.code yX3_of cX3_of 3 (some .int), Cond.methodLink RX3 55 yX3_refuses, Cond.instanceMethod yX3_refuses, Cond.selects RX3 yX3_refuses yX3_refuses, Cond.code yX3_refuses cX3_refuses 2 (some .int)]
def wsX3_dividend_r2 : List Cond := [Cond.methodLink RX3 131 yX3_share, Cond.instanceMethod yX3_share, Cond.selects RX3 yX3_share yX3_share, Cond.code yX3_share cX3_share 4 (some .int), Cond.methodLink RX3 58 yX3_adds, Cond.instanceMethod yX3_adds, Cond.selects RX3 yX3_adds yX3_adds, Cond.code yX3_adds cX3_adds 4 none]
def wsX3_dividend : List Cond := .code yX3_dividend cX3_dividend 3 (some .int) :: ((wsX3_dividend_r1 ++ wsX3_dividend_r2) ++ wsX30)
def wsX3_set : List Cond := .code yX3_set cX3_set 4 (some .int) :: ([.fieldLink RX3 7 "PledgedLoansModel" "s" "[I", .methodLink RX3 27 yX3_in, .static yX3_in, .initialized RX3, .code yX3_in cX3_in 3 (some .boolean), .methodLink RX3 94 yX3_holds, .instanceMethod yX3_holds, .selects RX3 yX3_holds yX3_holds, .code yX3_holds cX3_holds 2 (some .boolean), .fieldLink RX3 23 "PledgedLoansModel" "thrown" "I", .methodLink RX3 101 yX3_save, .instanceMethod yX3_save, .selects RX3 yX3_save yX3_save, .code yX3_save cX3_save 2 none, .fieldLink RX3 80 "PledgedLoansModel" "saved" "I", .methodLink RX3 83 yX3_copies, .instanceMethod yX3_copies, .selects RX3 yX3_copies yX3_copies, .code yX3_copies cX3_copies 4 none] ++ wsX30)
def wsX3_append : List Cond := .code yX3_append cX3_append 2 (some .int) :: ([.fieldLink RX3 134 "PledgedLoansModel" "length" "I", .fieldLink RX3 17 "PledgedLoansModel" "text" "[I", .methodLink RX3 27 yX3_in, .static yX3_in, .initialized RX3, .code yX3_in cX3_in 3 (some .boolean), .methodLink RX3 94 yX3_holds, .instanceMethod yX3_holds, .selects RX3 yX3_holds yX3_holds, .code yX3_holds cX3_holds 2 (some .boolean), .fieldLink RX3 23 "PledgedLoansModel" "thrown" "I"] ++ wsX30)
def wsX3_clearBuffer : List Cond := .code yX3_clearBuffer cX3_clearBuffer 2 (some .int) :: ([.fieldLink RX3 23 "PledgedLoansModel" "thrown" "I", .fieldLink RX3 134 "PledgedLoansModel" "length" "I"] ++ wsX30)
def wsX3_sign : List Cond := .code yX3_sign cX3_sign 1 (some .int) :: ([.fieldLink RX3 137 "PledgedLoansModel" "at" "I", .fieldLink RX3 134 "PledgedLoansModel" "length" "I", .fieldLink RX3 17 "PledgedLoansModel" "text" "[I"] ++ wsX30)
def wsX3_takesSign : List Cond := .code yX3_takesSign cX3_takesSign 3 (some .boolean) :: ([.fieldLink RX3 137 "PledgedLoansModel" "at" "I", .methodLink RX3 140 yX3_sign, .instanceMethod yX3_sign, .selects RX3 yX3_sign yX3_sign, .initialized RX3, .code yX3_sign cX3_sign 1 (some .int), .fieldLink RX3 134 "PledgedLoansModel" "length" "I", .fieldLink RX3 17 "PledgedLoansModel" "text" "[I"] ++ wsX30)
def wsX3_readsMember : List Cond := .code yX3_readsMember cX3_readsMember 3 (some .int) :: ([.fieldLink RX3 137 "PledgedLoansModel" "at" "I", .methodLink RX3 140 yX3_sign, .instanceMethod yX3_sign, .selects RX3 yX3_sign yX3_sign, .initialized RX3, .code yX3_sign cX3_sign 1 (some .int), .fieldLink RX3 134 "PledgedLoansModel" "length" "I", .fieldLink RX3 17 "PledgedLoansModel" "text" "[I", .methodLink RX3 27 yX3_in, .static yX3_in, .code yX3_in cX3_in 3 (some .boolean)] ++ wsX30)
def wsX3_readsNumber : List Cond := .code yX3_readsNumber cX3_readsNumber 3 (some .int) :: ([.fieldLink RX3 137 "PledgedLoansModel" "at" "I", .methodLink RX3 140 yX3_sign, .instanceMethod yX3_sign, .selects RX3 yX3_sign yX3_sign, .initialized RX3, .code yX3_sign cX3_sign 1 (some .int), .fieldLink RX3 134 "PledgedLoansModel" "length" "I", .fieldLink RX3 17 "PledgedLoansModel" "text" "[I", .methodLink RX3 27 yX3_in, .static yX3_in, .code yX3_in cX3_in 3 (some .boolean)] ++ wsX30)
def wsX3_readsOrder_r1 : List Cond := [Cond.fieldLink RX3 143 "PledgedLoansModel" "order" "I", Cond.fieldLink RX3 152 "PledgedLoansModel" "first" "I", Cond.fieldLink RX3 155 "PledgedLoansModel" "second" "I", Cond.fieldLink RX3 161 "PledgedLoansModel" "amount" "I", Cond.fieldLink RX3 164 "PledgedLoansModel" "weeks" "I", Cond.methodLink RX3 140 yX3_sign, Cond.instanceMethod yX3_sign, Cond.selects RX3 yX3_sign yX3_sign, Cond.initialized RX3, Cond.code yX3_sign cX3_sign 1 (some .int), Cond.fieldLink RX3 137 "PledgedLoansModel" "at" "I", Cond.fieldLink RX3 134 "PledgedLoansModel" "length" "I", Cond.fieldLink RX3 17 "PledgedLoansModel" "text" "[I", Cond.methodLink RX3 146 yX3_takesSign, Cond.instanceMethod yX3_takesSign, Cond.selects RX3 yX3_takesSign yX3_takesSign, Cond.code yX3_takesSign cX3_takesSign 3 (some .boolean), Cond.methodLink RX3 149 yX3_readsMember, Cond.instanceMethod yX3_readsMember, Cond.selects RX3 yX3_readsMember yX3_readsMember, Cond.code yX3_readsMember cX3_readsMember 3 (some .int), Cond.methodLink RX3 27 yX3_in, Cond.static yX3_in, Cond.code yX3_in cX3_in 3 (some .boolean)]
def wsX3_readsOrder_r2 : List Cond := [Cond.methodLink RX3 158 yX3_readsNumber, Cond.instanceMethod yX3_readsNumber, Cond.selects RX3 yX3_readsNumber yX3_readsNumber, Cond.code yX3_readsNumber cX3_readsNumber 3 (some .int)]
def wsX3_readsOrder : List Cond := .code yX3_readsOrder cX3_readsOrder 1 (some .boolean) :: ((wsX3_readsOrder_r1 ++ wsX3_readsOrder_r2) ++ wsX30)
def wsX3_areOrders_r1 : List Cond := [Cond.fieldLink RX3 137 "PledgedLoansModel" "at" "I", Cond.fieldLink RX3 134 "PledgedLoansModel" "length" "I", Cond.methodLink RX3 167 yX3_readsOrder, Cond.instanceMethod yX3_readsOrder, Cond.selects RX3 yX3_readsOrder yX3_readsOrder, Cond.initialized RX3, Cond.code yX3_readsOrder cX3_readsOrder 1 (some .boolean), Cond.fieldLink RX3 143 "PledgedLoansModel" "order" "I", Cond.fieldLink RX3 152 "PledgedLoansModel" "first" "I", Cond.fieldLink RX3 155 "PledgedLoansModel" "second" "I", Cond.fieldLink RX3 161 "PledgedLoansModel" "amount" "I", Cond.fieldLink RX3 164 "PledgedLoansModel" "weeks" "I", Cond.methodLink RX3 140 yX3_sign, Cond.instanceMethod yX3_sign, Cond.selects RX3 yX3_sign yX3_sign, Cond.code yX3_sign cX3_sign 1 (some .int), Cond.fieldLink RX3 17 "PledgedLoansModel" "text" "[I", Cond.methodLink RX3 146 yX3_takesSign, Cond.instanceMethod yX3_takesSign, Cond.selects RX3 yX3_takesSign yX3_takesSign, Cond.code yX3_takesSign cX3_takesSign 3 (some .boolean), Cond.methodLink RX3 149 yX3_readsMember, Cond.instanceMethod yX3_readsMember, Cond.selects RX3 yX3_readsMember yX3_readsMember]
def wsX3_areOrders_r2 : List Cond := [Cond.code yX3_readsMember cX3_readsMember 3 (some .int), Cond.methodLink RX3 27 yX3_in, Cond.static yX3_in, Cond.code yX3_in cX3_in 3 (some .boolean), Cond.methodLink RX3 158 yX3_readsNumber, Cond.instanceMethod yX3_readsNumber, Cond.selects RX3 yX3_readsNumber yX3_readsNumber, Cond.code yX3_readsNumber cX3_readsNumber 3 (some .int)]
def wsX3_areOrders : List Cond := .code yX3_areOrders cX3_areOrders 1 (some .boolean) :: ((wsX3_areOrders_r1 ++ wsX3_areOrders_r2) ++ wsX30)
def wsX3_firstError_r1 : List Cond := [Cond.fieldLink RX3 23 "PledgedLoansModel" "thrown" "I", Cond.fieldLink RX3 137 "PledgedLoansModel" "at" "I", Cond.methodLink RX3 171 yX3_areOrders, Cond.instanceMethod yX3_areOrders, Cond.selects RX3 yX3_areOrders yX3_areOrders, Cond.initialized RX3, Cond.code yX3_areOrders cX3_areOrders 1 (some .boolean), Cond.fieldLink RX3 134 "PledgedLoansModel" "length" "I", Cond.methodLink RX3 167 yX3_readsOrder, Cond.instanceMethod yX3_readsOrder, Cond.selects RX3 yX3_readsOrder yX3_readsOrder, Cond.code yX3_readsOrder cX3_readsOrder 1 (some .boolean), Cond.fieldLink RX3 143 "PledgedLoansModel" "order" "I", Cond.fieldLink RX3 152 "PledgedLoansModel" "first" "I", Cond.fieldLink RX3 155 "PledgedLoansModel" "second" "I", Cond.fieldLink RX3 161 "PledgedLoansModel" "amount" "I", Cond.fieldLink RX3 164 "PledgedLoansModel" "weeks" "I", Cond.methodLink RX3 140 yX3_sign, Cond.instanceMethod yX3_sign, Cond.selects RX3 yX3_sign yX3_sign, Cond.code yX3_sign cX3_sign 1 (some .int), Cond.fieldLink RX3 17 "PledgedLoansModel" "text" "[I", Cond.methodLink RX3 146 yX3_takesSign, Cond.instanceMethod yX3_takesSign]
def wsX3_firstError_r2 : List Cond := [Cond.selects RX3 yX3_takesSign yX3_takesSign, Cond.code yX3_takesSign cX3_takesSign 3 (some .boolean), Cond.methodLink RX3 149 yX3_readsMember, Cond.instanceMethod yX3_readsMember, Cond.selects RX3 yX3_readsMember yX3_readsMember, Cond.code yX3_readsMember cX3_readsMember 3 (some .int), Cond.methodLink RX3 27 yX3_in, Cond.static yX3_in, Cond.code yX3_in cX3_in 3 (some .boolean), Cond.methodLink RX3 158 yX3_readsNumber, Cond.instanceMethod yX3_readsNumber, Cond.selects RX3 yX3_readsNumber yX3_readsNumber, Cond.code yX3_readsNumber cX3_readsNumber 3 (some .int)]
def wsX3_firstError : List Cond := .code yX3_firstError cX3_firstError 1 (some .int) :: ((wsX3_firstError_r1 ++ wsX3_firstError_r2) ++ wsX30)
def wsX3_does_r1 : List Cond := [Cond.fieldLink RX3 143 "PledgedLoansModel" "order" "I", Cond.fieldLink RX3 152 "PledgedLoansModel" "first" "I", Cond.fieldLink RX3 161 "PledgedLoansModel" "amount" "I", Cond.fieldLink RX3 155 "PledgedLoansModel" "second" "I", Cond.fieldLink RX3 164 "PledgedLoansModel" "weeks" "I", Cond.methodLink RX3 104 yX3_paysIn, Cond.instanceMethod yX3_paysIn, Cond.selects RX3 yX3_paysIn yX3_paysIn, Cond.initialized RX3, Cond.code yX3_paysIn cX3_paysIn 3 (some .int), Cond.constant RX3 54 (90000), Cond.fieldLink RX3 7 "PledgedLoansModel" "s" "[I", Cond.methodLink RX3 35 yX3_of, Cond.instanceMethod yX3_of, Cond.selects RX3 yX3_of yX3_of, Cond.code yX3_of cX3_of 3 (some .int), Cond.methodLink RX3 55 yX3_refuses, Cond.instanceMethod yX3_refuses, Cond.selects RX3 yX3_refuses yX3_refuses, Cond.code yX3_refuses cX3_refuses 2 (some .int), Cond.methodLink RX3 58 yX3_adds, Cond.instanceMethod yX3_adds, Cond.selects RX3 yX3_adds yX3_adds, Cond.code yX3_adds cX3_adds 4 none]
def wsX3_does_r2 : List Cond := [Cond.methodLink RX3 107 yX3_paysOut, Cond.instanceMethod yX3_paysOut, Cond.selects RX3 yX3_paysOut yX3_paysOut, Cond.code yX3_paysOut cX3_paysOut 3 (some .int), Cond.methodLink RX3 62 yX3_free, Cond.instanceMethod yX3_free, Cond.selects RX3 yX3_free yX3_free, Cond.code yX3_free cX3_free 3 (some .int), Cond.methodLink RX3 45 yX3_pledgedFor, Cond.instanceMethod yX3_pledgedFor, Cond.selects RX3 yX3_pledgedFor yX3_pledgedFor, Cond.code yX3_pledgedFor cX3_pledgedFor 4 (some .int), Cond.methodLink RX3 31 yX3_pledgeOf, Cond.instanceMethod yX3_pledgeOf, Cond.selects RX3 yX3_pledgeOf yX3_pledgeOf, Cond.code yX3_pledgeOf cX3_pledgeOf 3 (some .int), Cond.methodLink RX3 42 yX3_own, Cond.instanceMethod yX3_own, Cond.selects RX3 yX3_own yX3_own, Cond.code yX3_own cX3_own 2 (some .int), Cond.methodLink RX3 38 yX3_pledgedBy, Cond.instanceMethod yX3_pledgedBy, Cond.selects RX3 yX3_pledgedBy yX3_pledgedBy, Cond.code yX3_pledgedBy cX3_pledgedBy 4 (some .int)]
def wsX3_does_r3 : List Cond := [Cond.methodLink RX3 113 yX3_pledges, Cond.instanceMethod yX3_pledges, Cond.selects RX3 yX3_pledges yX3_pledges, Cond.code yX3_pledges cX3_pledges 4 (some .int), Cond.methodLink RX3 119 yX3_lends, Cond.instanceMethod yX3_lends, Cond.selects RX3 yX3_lends yX3_lends, Cond.code yX3_lends cX3_lends 6 (some .int), Cond.methodLink RX3 65 yX3_reason, Cond.instanceMethod yX3_reason, Cond.selects RX3 yX3_reason yX3_reason, Cond.code yX3_reason cX3_reason 3 (some .int), Cond.methodLink RX3 48 yX3_cover, Cond.instanceMethod yX3_cover, Cond.selects RX3 yX3_cover yX3_cover, Cond.code yX3_cover cX3_cover 2 (some .int), Cond.methodLink RX3 51 yX3_fee, Cond.static yX3_fee, Cond.code yX3_fee cX3_fee 2 (some .int), Cond.methodLink RX3 122 yX3_repays, Cond.instanceMethod yX3_repays, Cond.selects RX3 yX3_repays yX3_repays, Cond.code yX3_repays cX3_repays 3 (some .int), Cond.methodLink RX3 125 yX3_endsWeek]
def wsX3_does_r4 : List Cond := [Cond.instanceMethod yX3_endsWeek, Cond.selects RX3 yX3_endsWeek yX3_endsWeek, Cond.code yX3_endsWeek cX3_endsWeek 4 (some .int), Cond.methodLink RX3 72 yX3_fallsDue, Cond.instanceMethod yX3_fallsDue, Cond.selects RX3 yX3_fallsDue yX3_fallsDue, Cond.code yX3_fallsDue cX3_fallsDue 3 none, Cond.methodLink RX3 68 yX3_takes, Cond.instanceMethod yX3_takes, Cond.selects RX3 yX3_takes yX3_takes, Cond.code yX3_takes cX3_takes 5 (some .int)]
def wsX3_does : List Cond := .code yX3_does cX3_does 1 none :: ((wsX3_does_r1 ++ (wsX3_does_r2 ++ (wsX3_does_r3 ++ wsX3_does_r4))) ++ wsX30)
def wsX3_run_r1 : List Cond := [Cond.fieldLink RX3 137 "PledgedLoansModel" "at" "I", Cond.fieldLink RX3 7 "PledgedLoansModel" "s" "[I", Cond.fieldLink RX3 143 "PledgedLoansModel" "order" "I", Cond.fieldLink RX3 134 "PledgedLoansModel" "length" "I", Cond.methodLink RX3 171 yX3_areOrders, Cond.instanceMethod yX3_areOrders, Cond.selects RX3 yX3_areOrders yX3_areOrders, Cond.initialized RX3, Cond.code yX3_areOrders cX3_areOrders 1 (some .boolean), Cond.methodLink RX3 167 yX3_readsOrder, Cond.instanceMethod yX3_readsOrder, Cond.selects RX3 yX3_readsOrder yX3_readsOrder, Cond.code yX3_readsOrder cX3_readsOrder 1 (some .boolean), Cond.fieldLink RX3 152 "PledgedLoansModel" "first" "I", Cond.fieldLink RX3 155 "PledgedLoansModel" "second" "I", Cond.fieldLink RX3 161 "PledgedLoansModel" "amount" "I", Cond.fieldLink RX3 164 "PledgedLoansModel" "weeks" "I", Cond.methodLink RX3 140 yX3_sign, Cond.instanceMethod yX3_sign, Cond.selects RX3 yX3_sign yX3_sign, Cond.code yX3_sign cX3_sign 1 (some .int), Cond.fieldLink RX3 17 "PledgedLoansModel" "text" "[I", Cond.methodLink RX3 146 yX3_takesSign, Cond.instanceMethod yX3_takesSign]
def wsX3_run_r2 : List Cond := [Cond.selects RX3 yX3_takesSign yX3_takesSign, Cond.code yX3_takesSign cX3_takesSign 3 (some .boolean), Cond.methodLink RX3 149 yX3_readsMember, Cond.instanceMethod yX3_readsMember, Cond.selects RX3 yX3_readsMember yX3_readsMember, Cond.code yX3_readsMember cX3_readsMember 3 (some .int), Cond.methodLink RX3 27 yX3_in, Cond.static yX3_in, Cond.code yX3_in cX3_in 3 (some .boolean), Cond.methodLink RX3 158 yX3_readsNumber, Cond.instanceMethod yX3_readsNumber, Cond.selects RX3 yX3_readsNumber yX3_readsNumber, Cond.code yX3_readsNumber cX3_readsNumber 3 (some .int), Cond.methodLink RX3 94 yX3_holds, Cond.instanceMethod yX3_holds, Cond.selects RX3 yX3_holds yX3_holds, Cond.code yX3_holds cX3_holds 2 (some .boolean), Cond.fieldLink RX3 23 "PledgedLoansModel" "thrown" "I", Cond.methodLink RX3 101 yX3_save, Cond.instanceMethod yX3_save, Cond.selects RX3 yX3_save yX3_save, Cond.code yX3_save cX3_save 2 none, Cond.fieldLink RX3 80 "PledgedLoansModel" "saved" "I", Cond.methodLink RX3 83 yX3_copies]
def wsX3_run_r3 : List Cond := [Cond.instanceMethod yX3_copies, Cond.selects RX3 yX3_copies yX3_copies, Cond.code yX3_copies cX3_copies 4 none, Cond.methodLink RX3 174 yX3_does, Cond.instanceMethod yX3_does, Cond.selects RX3 yX3_does yX3_does, Cond.code yX3_does cX3_does 1 none, Cond.methodLink RX3 104 yX3_paysIn, Cond.instanceMethod yX3_paysIn, Cond.selects RX3 yX3_paysIn yX3_paysIn, Cond.code yX3_paysIn cX3_paysIn 3 (some .int), Cond.constant RX3 54 (90000), Cond.methodLink RX3 35 yX3_of, Cond.instanceMethod yX3_of, Cond.selects RX3 yX3_of yX3_of, Cond.code yX3_of cX3_of 3 (some .int), Cond.methodLink RX3 55 yX3_refuses, Cond.instanceMethod yX3_refuses, Cond.selects RX3 yX3_refuses yX3_refuses, Cond.code yX3_refuses cX3_refuses 2 (some .int), Cond.methodLink RX3 58 yX3_adds, Cond.instanceMethod yX3_adds, Cond.selects RX3 yX3_adds yX3_adds, Cond.code yX3_adds cX3_adds 4 none]
def wsX3_run_r4 : List Cond := [Cond.methodLink RX3 107 yX3_paysOut, Cond.instanceMethod yX3_paysOut, Cond.selects RX3 yX3_paysOut yX3_paysOut, Cond.code yX3_paysOut cX3_paysOut 3 (some .int), Cond.methodLink RX3 62 yX3_free, Cond.instanceMethod yX3_free, Cond.selects RX3 yX3_free yX3_free, Cond.code yX3_free cX3_free 3 (some .int), Cond.methodLink RX3 45 yX3_pledgedFor, Cond.instanceMethod yX3_pledgedFor, Cond.selects RX3 yX3_pledgedFor yX3_pledgedFor, Cond.code yX3_pledgedFor cX3_pledgedFor 4 (some .int), Cond.methodLink RX3 31 yX3_pledgeOf, Cond.instanceMethod yX3_pledgeOf, Cond.selects RX3 yX3_pledgeOf yX3_pledgeOf, Cond.code yX3_pledgeOf cX3_pledgeOf 3 (some .int), Cond.methodLink RX3 42 yX3_own, Cond.instanceMethod yX3_own, Cond.selects RX3 yX3_own yX3_own, Cond.code yX3_own cX3_own 2 (some .int), Cond.methodLink RX3 38 yX3_pledgedBy, Cond.instanceMethod yX3_pledgedBy, Cond.selects RX3 yX3_pledgedBy yX3_pledgedBy, Cond.code yX3_pledgedBy cX3_pledgedBy 4 (some .int)]
def wsX3_run_r5 : List Cond := [Cond.methodLink RX3 113 yX3_pledges, Cond.instanceMethod yX3_pledges, Cond.selects RX3 yX3_pledges yX3_pledges, Cond.code yX3_pledges cX3_pledges 4 (some .int), Cond.methodLink RX3 119 yX3_lends, Cond.instanceMethod yX3_lends, Cond.selects RX3 yX3_lends yX3_lends, Cond.code yX3_lends cX3_lends 6 (some .int), Cond.methodLink RX3 65 yX3_reason, Cond.instanceMethod yX3_reason, Cond.selects RX3 yX3_reason yX3_reason, Cond.code yX3_reason cX3_reason 3 (some .int), Cond.methodLink RX3 48 yX3_cover, Cond.instanceMethod yX3_cover, Cond.selects RX3 yX3_cover yX3_cover, Cond.code yX3_cover cX3_cover 2 (some .int), Cond.methodLink RX3 51 yX3_fee, Cond.static yX3_fee, Cond.code yX3_fee cX3_fee 2 (some .int), Cond.methodLink RX3 122 yX3_repays, Cond.instanceMethod yX3_repays, Cond.selects RX3 yX3_repays yX3_repays, Cond.code yX3_repays cX3_repays 3 (some .int), Cond.methodLink RX3 125 yX3_endsWeek]
def wsX3_run_r6 : List Cond := [Cond.instanceMethod yX3_endsWeek, Cond.selects RX3 yX3_endsWeek yX3_endsWeek, Cond.code yX3_endsWeek cX3_endsWeek 4 (some .int), Cond.methodLink RX3 72 yX3_fallsDue, Cond.instanceMethod yX3_fallsDue, Cond.selects RX3 yX3_fallsDue yX3_fallsDue, Cond.code yX3_fallsDue cX3_fallsDue 3 none, Cond.methodLink RX3 68 yX3_takes, Cond.instanceMethod yX3_takes, Cond.selects RX3 yX3_takes yX3_takes, Cond.code yX3_takes cX3_takes 5 (some .int)]
def wsX3_run : List Cond := .code yX3_run cX3_run 4 (some .int) :: ((wsX3_run_r1 ++ (wsX3_run_r2 ++ (wsX3_run_r3 ++ (wsX3_run_r4 ++ (wsX3_run_r5 ++ wsX3_run_r6))))) ++ wsX30)
def wsX3_loans : List Cond := .code yX3_loans cX3_loans 3 (some .int) :: ([.methodLink RX3 35 yX3_of, .instanceMethod yX3_of, .selects RX3 yX3_of yX3_of, .initialized RX3, .code yX3_of cX3_of 3 (some .int), .fieldLink RX3 7 "PledgedLoansModel" "s" "[I"] ++ wsX30)
def wsX3_keep : List Cond := .code yX3_keep cX3_keep 2 (some .int) :: ([.fieldLink RX3 13 "PledgedLoansModel" "isKept" "[Z", .methodLink RX3 27 yX3_in, .static yX3_in, .initialized RX3, .code yX3_in cX3_in 3 (some .boolean), .methodLink RX3 94 yX3_holds, .instanceMethod yX3_holds, .selects RX3 yX3_holds yX3_holds, .code yX3_holds cX3_holds 2 (some .boolean), .fieldLink RX3 23 "PledgedLoansModel" "thrown" "I", .methodLink RX3 83 yX3_copies, .instanceMethod yX3_copies, .selects RX3 yX3_copies yX3_copies, .code yX3_copies cX3_copies 4 none, .fieldLink RX3 7 "PledgedLoansModel" "s" "[I", .methodLink RX3 177 yX3_loans, .instanceMethod yX3_loans, .selects RX3 yX3_loans yX3_loans, .code yX3_loans cX3_loans 3 (some .int), .methodLink RX3 35 yX3_of, .instanceMethod yX3_of, .selects RX3 yX3_of yX3_of, .code yX3_of cX3_of 3 (some .int)] ++ wsX30)
def wsX3_goBack_r1 : List Cond := [Cond.fieldLink RX3 13 "PledgedLoansModel" "isKept" "[Z", Cond.methodLink RX3 27 yX3_in, Cond.static yX3_in, Cond.initialized RX3, Cond.code yX3_in cX3_in 3 (some .boolean), Cond.methodLink RX3 94 yX3_holds, Cond.instanceMethod yX3_holds, Cond.selects RX3 yX3_holds yX3_holds, Cond.code yX3_holds cX3_holds 2 (some .boolean), Cond.fieldLink RX3 23 "PledgedLoansModel" "thrown" "I", Cond.methodLink RX3 101 yX3_save, Cond.instanceMethod yX3_save, Cond.selects RX3 yX3_save yX3_save, Cond.code yX3_save cX3_save 2 none, Cond.fieldLink RX3 80 "PledgedLoansModel" "saved" "I", Cond.methodLink RX3 83 yX3_copies, Cond.instanceMethod yX3_copies, Cond.selects RX3 yX3_copies yX3_copies, Cond.code yX3_copies cX3_copies 4 none, Cond.fieldLink RX3 7 "PledgedLoansModel" "s" "[I", Cond.methodLink RX3 177 yX3_loans, Cond.instanceMethod yX3_loans, Cond.selects RX3 yX3_loans yX3_loans, Cond.code yX3_loans cX3_loans 3 (some .int)]
def wsX3_goBack_r2 : List Cond := [Cond.methodLink RX3 35 yX3_of, Cond.instanceMethod yX3_of, Cond.selects RX3 yX3_of yX3_of, Cond.code yX3_of cX3_of 3 (some .int)]
def wsX3_goBack : List Cond := .code yX3_goBack cX3_goBack 2 (some .int) :: ((wsX3_goBack_r1 ++ wsX3_goBack_r2) ++ wsX30)
def wsX3_undo : List Cond := .code yX3_undo cX3_undo 1 (some .int) :: ([.fieldLink RX3 80 "PledgedLoansModel" "saved" "I", .methodLink RX3 94 yX3_holds, .instanceMethod yX3_holds, .selects RX3 yX3_holds yX3_holds, .initialized RX3, .code yX3_holds cX3_holds 2 (some .boolean), .fieldLink RX3 23 "PledgedLoansModel" "thrown" "I", .methodLink RX3 83 yX3_copies, .instanceMethod yX3_copies, .selects RX3 yX3_copies yX3_copies, .code yX3_copies cX3_copies 4 none, .fieldLink RX3 7 "PledgedLoansModel" "s" "[I"] ++ wsX30)
def wsX3_property_r1 : List Cond := [Cond.methodLink RX3 35 yX3_of, Cond.instanceMethod yX3_of, Cond.selects RX3 yX3_of yX3_of, Cond.initialized RX3, Cond.code yX3_of cX3_of 3 (some .int), Cond.fieldLink RX3 7 "PledgedLoansModel" "s" "[I", Cond.methodLink RX3 38 yX3_pledgedBy, Cond.instanceMethod yX3_pledgedBy, Cond.selects RX3 yX3_pledgedBy yX3_pledgedBy, Cond.code yX3_pledgedBy cX3_pledgedBy 4 (some .int), Cond.methodLink RX3 31 yX3_pledgeOf, Cond.instanceMethod yX3_pledgeOf, Cond.selects RX3 yX3_pledgeOf yX3_pledgeOf, Cond.code yX3_pledgeOf cX3_pledgeOf 3 (some .int), Cond.methodLink RX3 45 yX3_pledgedFor, Cond.instanceMethod yX3_pledgedFor, Cond.selects RX3 yX3_pledgedFor yX3_pledgedFor, Cond.code yX3_pledgedFor cX3_pledgedFor 4 (some .int), Cond.methodLink RX3 48 yX3_cover, Cond.instanceMethod yX3_cover, Cond.selects RX3 yX3_cover yX3_cover, Cond.code yX3_cover cX3_cover 2 (some .int), Cond.methodLink RX3 42 yX3_own, Cond.instanceMethod yX3_own]
def wsX3_property_r2 : List Cond := [Cond.selects RX3 yX3_own yX3_own, Cond.code yX3_own cX3_own 2 (some .int), Cond.methodLink RX3 62 yX3_free, Cond.instanceMethod yX3_free, Cond.selects RX3 yX3_free yX3_free, Cond.code yX3_free cX3_free 3 (some .int)]
def wsX3_property : List Cond := .code yX3_property cX3_property 3 (some .int) :: ((wsX3_property_r1 ++ wsX3_property_r2) ++ wsX30)
def wsX3_memberOf_r1 : List Cond := [Cond.methodLink RX3 87 yX3_isMember, Cond.static yX3_isMember, Cond.initialized RX3, Cond.code yX3_isMember cX3_isMember 1 (some .boolean), Cond.methodLink RX3 27 yX3_in, Cond.static yX3_in, Cond.code yX3_in cX3_in 3 (some .boolean), Cond.methodLink RX3 94 yX3_holds, Cond.instanceMethod yX3_holds, Cond.selects RX3 yX3_holds yX3_holds, Cond.code yX3_holds cX3_holds 2 (some .boolean), Cond.fieldLink RX3 23 "PledgedLoansModel" "thrown" "I", Cond.methodLink RX3 180 yX3_property, Cond.instanceMethod yX3_property, Cond.selects RX3 yX3_property yX3_property, Cond.code yX3_property cX3_property 3 (some .int), Cond.methodLink RX3 35 yX3_of, Cond.instanceMethod yX3_of, Cond.selects RX3 yX3_of yX3_of, Cond.code yX3_of cX3_of 3 (some .int), Cond.fieldLink RX3 7 "PledgedLoansModel" "s" "[I", Cond.methodLink RX3 38 yX3_pledgedBy, Cond.instanceMethod yX3_pledgedBy, Cond.selects RX3 yX3_pledgedBy yX3_pledgedBy]
def wsX3_memberOf_r2 : List Cond := [Cond.code yX3_pledgedBy cX3_pledgedBy 4 (some .int), Cond.methodLink RX3 31 yX3_pledgeOf, Cond.instanceMethod yX3_pledgeOf, Cond.selects RX3 yX3_pledgeOf yX3_pledgeOf, Cond.code yX3_pledgeOf cX3_pledgeOf 3 (some .int), Cond.methodLink RX3 45 yX3_pledgedFor, Cond.instanceMethod yX3_pledgedFor, Cond.selects RX3 yX3_pledgedFor yX3_pledgedFor, Cond.code yX3_pledgedFor cX3_pledgedFor 4 (some .int), Cond.methodLink RX3 48 yX3_cover, Cond.instanceMethod yX3_cover, Cond.selects RX3 yX3_cover yX3_cover, Cond.code yX3_cover cX3_cover 2 (some .int), Cond.methodLink RX3 42 yX3_own, Cond.instanceMethod yX3_own, Cond.selects RX3 yX3_own yX3_own, Cond.code yX3_own cX3_own 2 (some .int), Cond.methodLink RX3 62 yX3_free, Cond.instanceMethod yX3_free, Cond.selects RX3 yX3_free yX3_free, Cond.code yX3_free cX3_free 3 (some .int)]
def wsX3_memberOf : List Cond := .code yX3_memberOf cX3_memberOf 3 (some .int) :: ((wsX3_memberOf_r1 ++ wsX3_memberOf_r2) ++ wsX30)
def wsX3_pledged : List Cond := .code yX3_pledged cX3_pledged 3 (some .int) :: ([.methodLink RX3 87 yX3_isMember, .static yX3_isMember, .initialized RX3, .code yX3_isMember cX3_isMember 1 (some .boolean), .methodLink RX3 27 yX3_in, .static yX3_in, .code yX3_in cX3_in 3 (some .boolean), .methodLink RX3 94 yX3_holds, .instanceMethod yX3_holds, .selects RX3 yX3_holds yX3_holds, .code yX3_holds cX3_holds 2 (some .boolean), .fieldLink RX3 23 "PledgedLoansModel" "thrown" "I", .methodLink RX3 31 yX3_pledgeOf, .instanceMethod yX3_pledgeOf, .selects RX3 yX3_pledgeOf yX3_pledgeOf, .code yX3_pledgeOf cX3_pledgeOf 3 (some .int), .fieldLink RX3 7 "PledgedLoansModel" "s" "[I"] ++ wsX30)
def wsX3_total : List Cond := .code yX3_total cX3_total 4 (some .int) :: ([.methodLink RX3 35 yX3_of, .instanceMethod yX3_of, .selects RX3 yX3_of yX3_of, .initialized RX3, .code yX3_of cX3_of 3 (some .int), .fieldLink RX3 7 "PledgedLoansModel" "s" "[I"] ++ wsX30)
def wsX3_counted : List Cond := .code yX3_counted cX3_counted 2 (some .int) :: ([.fieldLink RX3 7 "PledgedLoansModel" "s" "[I", .fieldLink RX3 80 "PledgedLoansModel" "saved" "I", .methodLink RX3 183 yX3_total, .instanceMethod yX3_total, .selects RX3 yX3_total yX3_total, .initialized RX3, .code yX3_total cX3_total 4 (some .int), .methodLink RX3 35 yX3_of, .instanceMethod yX3_of, .selects RX3 yX3_of yX3_of, .code yX3_of cX3_of 3 (some .int), .methodLink RX3 177 yX3_loans, .instanceMethod yX3_loans, .selects RX3 yX3_loans yX3_loans, .code yX3_loans cX3_loans 3 (some .int)] ++ wsX30)
def wsX3_count_r1 : List Cond := [Cond.methodLink RX3 27 yX3_in, Cond.static yX3_in, Cond.initialized RX3, Cond.code yX3_in cX3_in 3 (some .boolean), Cond.methodLink RX3 94 yX3_holds, Cond.instanceMethod yX3_holds, Cond.selects RX3 yX3_holds yX3_holds, Cond.code yX3_holds cX3_holds 2 (some .boolean), Cond.fieldLink RX3 23 "PledgedLoansModel" "thrown" "I", Cond.methodLink RX3 186 yX3_counted, Cond.instanceMethod yX3_counted, Cond.selects RX3 yX3_counted yX3_counted, Cond.code yX3_counted cX3_counted 2 (some .int), Cond.fieldLink RX3 7 "PledgedLoansModel" "s" "[I", Cond.fieldLink RX3 80 "PledgedLoansModel" "saved" "I", Cond.methodLink RX3 183 yX3_total, Cond.instanceMethod yX3_total, Cond.selects RX3 yX3_total yX3_total, Cond.code yX3_total cX3_total 4 (some .int), Cond.methodLink RX3 35 yX3_of, Cond.instanceMethod yX3_of, Cond.selects RX3 yX3_of yX3_of, Cond.code yX3_of cX3_of 3 (some .int), Cond.methodLink RX3 177 yX3_loans]
def wsX3_count_r2 : List Cond := [Cond.instanceMethod yX3_loans, Cond.selects RX3 yX3_loans yX3_loans, Cond.code yX3_loans cX3_loans 3 (some .int)]
def wsX3_count : List Cond := .code yX3_count cX3_count 2 (some .int) :: ((wsX3_count_r1 ++ wsX3_count_r2) ++ wsX30)
def wsX3_setting : List Cond := .code yX3_setting cX3_setting 2 (some .int) :: ([.fieldLink RX3 7 "PledgedLoansModel" "s" "[I", .methodLink RX3 27 yX3_in, .static yX3_in, .initialized RX3, .code yX3_in cX3_in 3 (some .boolean), .methodLink RX3 94 yX3_holds, .instanceMethod yX3_holds, .selects RX3 yX3_holds yX3_holds, .code yX3_holds cX3_holds 2 (some .boolean), .fieldLink RX3 23 "PledgedLoansModel" "thrown" "I"] ++ wsX30)
def wsX3_whyNot_r1 : List Cond := [Cond.methodLink RX3 97 yX3_isDeed, Cond.instanceMethod yX3_isDeed, Cond.selects RX3 yX3_isDeed yX3_isDeed, Cond.initialized RX3, Cond.code yX3_isDeed cX3_isDeed 3 (some .boolean), Cond.methodLink RX3 87 yX3_isMember, Cond.static yX3_isMember, Cond.code yX3_isMember cX3_isMember 1 (some .boolean), Cond.methodLink RX3 27 yX3_in, Cond.static yX3_in, Cond.code yX3_in cX3_in 3 (some .boolean), Cond.methodLink RX3 91 yX3_isAmount, Cond.static yX3_isAmount, Cond.code yX3_isAmount cX3_isAmount 1 (some .boolean), Cond.methodLink RX3 94 yX3_holds, Cond.instanceMethod yX3_holds, Cond.selects RX3 yX3_holds yX3_holds, Cond.code yX3_holds cX3_holds 2 (some .boolean), Cond.fieldLink RX3 23 "PledgedLoansModel" "thrown" "I", Cond.methodLink RX3 65 yX3_reason, Cond.instanceMethod yX3_reason, Cond.selects RX3 yX3_reason yX3_reason, Cond.code yX3_reason cX3_reason 3 (some .int), Cond.fieldLink RX3 7 "PledgedLoansModel" "s" "[I"]
def wsX3_whyNot_r2 : List Cond := [Cond.methodLink RX3 35 yX3_of, Cond.instanceMethod yX3_of, Cond.selects RX3 yX3_of yX3_of, Cond.code yX3_of cX3_of 3 (some .int), Cond.methodLink RX3 48 yX3_cover, Cond.instanceMethod yX3_cover, Cond.selects RX3 yX3_cover yX3_cover, Cond.code yX3_cover cX3_cover 2 (some .int), Cond.methodLink RX3 42 yX3_own, Cond.instanceMethod yX3_own, Cond.selects RX3 yX3_own yX3_own, Cond.code yX3_own cX3_own 2 (some .int), Cond.methodLink RX3 38 yX3_pledgedBy, Cond.instanceMethod yX3_pledgedBy, Cond.selects RX3 yX3_pledgedBy yX3_pledgedBy, Cond.code yX3_pledgedBy cX3_pledgedBy 4 (some .int), Cond.methodLink RX3 31 yX3_pledgeOf, Cond.instanceMethod yX3_pledgeOf, Cond.selects RX3 yX3_pledgeOf yX3_pledgeOf, Cond.code yX3_pledgeOf cX3_pledgeOf 3 (some .int), Cond.methodLink RX3 45 yX3_pledgedFor, Cond.instanceMethod yX3_pledgedFor, Cond.selects RX3 yX3_pledgedFor yX3_pledgedFor, Cond.code yX3_pledgedFor cX3_pledgedFor 4 (some .int)]
def wsX3_whyNot_r3 : List Cond := [Cond.methodLink RX3 51 yX3_fee, Cond.static yX3_fee, Cond.code yX3_fee cX3_fee 2 (some .int)]
def wsX3_whyNot : List Cond := .code yX3_whyNot cX3_whyNot 3 (some .int) :: ((wsX3_whyNot_r1 ++ (wsX3_whyNot_r2 ++ wsX3_whyNot_r3)) ++ wsX30)
def wsX3_most_r1 : List Cond := [Cond.methodLink RX3 65 yX3_reason, Cond.instanceMethod yX3_reason, Cond.selects RX3 yX3_reason yX3_reason, Cond.initialized RX3, Cond.code yX3_reason cX3_reason 3 (some .int), Cond.fieldLink RX3 7 "PledgedLoansModel" "s" "[I", Cond.methodLink RX3 35 yX3_of, Cond.instanceMethod yX3_of, Cond.selects RX3 yX3_of yX3_of, Cond.code yX3_of cX3_of 3 (some .int), Cond.methodLink RX3 48 yX3_cover, Cond.instanceMethod yX3_cover, Cond.selects RX3 yX3_cover yX3_cover, Cond.code yX3_cover cX3_cover 2 (some .int), Cond.methodLink RX3 42 yX3_own, Cond.instanceMethod yX3_own, Cond.selects RX3 yX3_own yX3_own, Cond.code yX3_own cX3_own 2 (some .int), Cond.methodLink RX3 38 yX3_pledgedBy, Cond.instanceMethod yX3_pledgedBy, Cond.selects RX3 yX3_pledgedBy yX3_pledgedBy, Cond.code yX3_pledgedBy cX3_pledgedBy 4 (some .int), Cond.methodLink RX3 31 yX3_pledgeOf, Cond.instanceMethod yX3_pledgeOf]
def wsX3_most_r2 : List Cond := [Cond.selects RX3 yX3_pledgeOf yX3_pledgeOf, Cond.code yX3_pledgeOf cX3_pledgeOf 3 (some .int), Cond.methodLink RX3 45 yX3_pledgedFor, Cond.instanceMethod yX3_pledgedFor, Cond.selects RX3 yX3_pledgedFor yX3_pledgedFor, Cond.code yX3_pledgedFor cX3_pledgedFor 4 (some .int), Cond.methodLink RX3 51 yX3_fee, Cond.static yX3_fee, Cond.code yX3_fee cX3_fee 2 (some .int)]
def wsX3_most : List Cond := .code yX3_most cX3_most 3 (some .int) :: ((wsX3_most_r1 ++ wsX3_most_r2) ++ wsX30)
def wsX3_greatest_r1 : List Cond := [Cond.methodLink RX3 87 yX3_isMember, Cond.static yX3_isMember, Cond.initialized RX3, Cond.code yX3_isMember cX3_isMember 1 (some .boolean), Cond.methodLink RX3 27 yX3_in, Cond.static yX3_in, Cond.code yX3_in cX3_in 3 (some .boolean), Cond.methodLink RX3 94 yX3_holds, Cond.instanceMethod yX3_holds, Cond.selects RX3 yX3_holds yX3_holds, Cond.code yX3_holds cX3_holds 2 (some .boolean), Cond.fieldLink RX3 23 "PledgedLoansModel" "thrown" "I", Cond.methodLink RX3 189 yX3_most, Cond.instanceMethod yX3_most, Cond.selects RX3 yX3_most yX3_most, Cond.code yX3_most cX3_most 3 (some .int), Cond.methodLink RX3 65 yX3_reason, Cond.instanceMethod yX3_reason, Cond.selects RX3 yX3_reason yX3_reason, Cond.code yX3_reason cX3_reason 3 (some .int), Cond.fieldLink RX3 7 "PledgedLoansModel" "s" "[I", Cond.methodLink RX3 35 yX3_of, Cond.instanceMethod yX3_of, Cond.selects RX3 yX3_of yX3_of]
def wsX3_greatest_r2 : List Cond := [Cond.code yX3_of cX3_of 3 (some .int), Cond.methodLink RX3 48 yX3_cover, Cond.instanceMethod yX3_cover, Cond.selects RX3 yX3_cover yX3_cover, Cond.code yX3_cover cX3_cover 2 (some .int), Cond.methodLink RX3 42 yX3_own, Cond.instanceMethod yX3_own, Cond.selects RX3 yX3_own yX3_own, Cond.code yX3_own cX3_own 2 (some .int), Cond.methodLink RX3 38 yX3_pledgedBy, Cond.instanceMethod yX3_pledgedBy, Cond.selects RX3 yX3_pledgedBy yX3_pledgedBy, Cond.code yX3_pledgedBy cX3_pledgedBy 4 (some .int), Cond.methodLink RX3 31 yX3_pledgeOf, Cond.instanceMethod yX3_pledgeOf, Cond.selects RX3 yX3_pledgeOf yX3_pledgeOf, Cond.code yX3_pledgeOf cX3_pledgeOf 3 (some .int), Cond.methodLink RX3 45 yX3_pledgedFor, Cond.instanceMethod yX3_pledgedFor, Cond.selects RX3 yX3_pledgedFor yX3_pledgedFor, Cond.code yX3_pledgedFor cX3_pledgedFor 4 (some .int), Cond.methodLink RX3 51 yX3_fee, Cond.static yX3_fee, Cond.code yX3_fee cX3_fee 2 (some .int)]
def wsX3_greatest : List Cond := .code yX3_greatest cX3_greatest 3 (some .int) :: ((wsX3_greatest_r1 ++ wsX3_greatest_r2) ++ wsX30)
def wsX3_fewest_r1 : List Cond := [Cond.fieldLink RX3 20 "PledgedLoansModel" "frees" "[I", Cond.methodLink RX3 62 yX3_free, Cond.instanceMethod yX3_free, Cond.selects RX3 yX3_free yX3_free, Cond.initialized RX3, Cond.code yX3_free cX3_free 3 (some .int), Cond.methodLink RX3 35 yX3_of, Cond.instanceMethod yX3_of, Cond.selects RX3 yX3_of yX3_of, Cond.code yX3_of cX3_of 3 (some .int), Cond.fieldLink RX3 7 "PledgedLoansModel" "s" "[I", Cond.methodLink RX3 45 yX3_pledgedFor, Cond.instanceMethod yX3_pledgedFor, Cond.selects RX3 yX3_pledgedFor yX3_pledgedFor, Cond.code yX3_pledgedFor cX3_pledgedFor 4 (some .int), Cond.methodLink RX3 31 yX3_pledgeOf, Cond.instanceMethod yX3_pledgeOf, Cond.selects RX3 yX3_pledgeOf yX3_pledgeOf, Cond.code yX3_pledgeOf cX3_pledgeOf 3 (some .int), Cond.methodLink RX3 42 yX3_own, Cond.instanceMethod yX3_own, Cond.selects RX3 yX3_own yX3_own, Cond.code yX3_own cX3_own 2 (some .int), Cond.methodLink RX3 38 yX3_pledgedBy]
def wsX3_fewest_r2 : List Cond := [Cond.instanceMethod yX3_pledgedBy, Cond.selects RX3 yX3_pledgedBy yX3_pledgedBy, Cond.code yX3_pledgedBy cX3_pledgedBy 4 (some .int), Cond.methodLink RX3 48 yX3_cover, Cond.instanceMethod yX3_cover, Cond.selects RX3 yX3_cover yX3_cover, Cond.code yX3_cover cX3_cover 2 (some .int)]
def wsX3_fewest : List Cond := .code yX3_fewest cX3_fewest 7 (some .int) :: ((wsX3_fewest_r1 ++ wsX3_fewest_r2) ++ wsX30)
def wsX3_guarantors_r1 : List Cond := [Cond.methodLink RX3 91 yX3_isAmount, Cond.static yX3_isAmount, Cond.initialized RX3, Cond.code yX3_isAmount cX3_isAmount 1 (some .boolean), Cond.methodLink RX3 27 yX3_in, Cond.static yX3_in, Cond.code yX3_in cX3_in 3 (some .boolean), Cond.methodLink RX3 87 yX3_isMember, Cond.static yX3_isMember, Cond.code yX3_isMember cX3_isMember 1 (some .boolean), Cond.methodLink RX3 94 yX3_holds, Cond.instanceMethod yX3_holds, Cond.selects RX3 yX3_holds yX3_holds, Cond.code yX3_holds cX3_holds 2 (some .boolean), Cond.fieldLink RX3 23 "PledgedLoansModel" "thrown" "I", Cond.methodLink RX3 192 yX3_fewest, Cond.instanceMethod yX3_fewest, Cond.selects RX3 yX3_fewest yX3_fewest, Cond.code yX3_fewest cX3_fewest 7 (some .int), Cond.fieldLink RX3 20 "PledgedLoansModel" "frees" "[I", Cond.methodLink RX3 62 yX3_free, Cond.instanceMethod yX3_free, Cond.selects RX3 yX3_free yX3_free, Cond.code yX3_free cX3_free 3 (some .int)]
def wsX3_guarantors_r2 : List Cond := [Cond.methodLink RX3 35 yX3_of, Cond.instanceMethod yX3_of, Cond.selects RX3 yX3_of yX3_of, Cond.code yX3_of cX3_of 3 (some .int), Cond.fieldLink RX3 7 "PledgedLoansModel" "s" "[I", Cond.methodLink RX3 45 yX3_pledgedFor, Cond.instanceMethod yX3_pledgedFor, Cond.selects RX3 yX3_pledgedFor yX3_pledgedFor, Cond.code yX3_pledgedFor cX3_pledgedFor 4 (some .int), Cond.methodLink RX3 31 yX3_pledgeOf, Cond.instanceMethod yX3_pledgeOf, Cond.selects RX3 yX3_pledgeOf yX3_pledgeOf, Cond.code yX3_pledgeOf cX3_pledgeOf 3 (some .int), Cond.methodLink RX3 42 yX3_own, Cond.instanceMethod yX3_own, Cond.selects RX3 yX3_own yX3_own, Cond.code yX3_own cX3_own 2 (some .int), Cond.methodLink RX3 38 yX3_pledgedBy, Cond.instanceMethod yX3_pledgedBy, Cond.selects RX3 yX3_pledgedBy yX3_pledgedBy, Cond.code yX3_pledgedBy cX3_pledgedBy 4 (some .int), Cond.methodLink RX3 48 yX3_cover, Cond.instanceMethod yX3_cover, Cond.selects RX3 yX3_cover yX3_cover]
def wsX3_guarantors_r3 : List Cond := [Cond.code yX3_cover cX3_cover 2 (some .int)]
def wsX3_guarantors : List Cond := .code yX3_guarantors cX3_guarantors 5 (some .int) :: ((wsX3_guarantors_r1 ++ (wsX3_guarantors_r2 ++ wsX3_guarantors_r3)) ++ wsX30)
def wsX3_lasts : List Cond := .code yX3_lasts cX3_lasts 3 (some .int) :: ([.methodLink RX3 35 yX3_of, .instanceMethod yX3_of, .selects RX3 yX3_of yX3_of, .initialized RX3, .code yX3_of cX3_of 3 (some .int), .fieldLink RX3 7 "PledgedLoansModel" "s" "[I"] ++ wsX30)
def wsX3_weeksLeft : List Cond := .code yX3_weeksLeft cX3_weeksLeft 3 (some .int) :: ([.methodLink RX3 87 yX3_isMember, .static yX3_isMember, .initialized RX3, .code yX3_isMember cX3_isMember 1 (some .boolean), .methodLink RX3 27 yX3_in, .static yX3_in, .code yX3_in cX3_in 3 (some .boolean), .methodLink RX3 94 yX3_holds, .instanceMethod yX3_holds, .selects RX3 yX3_holds yX3_holds, .code yX3_holds cX3_holds 2 (some .boolean), .fieldLink RX3 23 "PledgedLoansModel" "thrown" "I", .methodLink RX3 195 yX3_lasts, .instanceMethod yX3_lasts, .selects RX3 yX3_lasts yX3_lasts, .code yX3_lasts cX3_lasts 3 (some .int), .methodLink RX3 35 yX3_of, .instanceMethod yX3_of, .selects RX3 yX3_of yX3_of, .code yX3_of cX3_of 3 (some .int), .fieldLink RX3 7 "PledgedLoansModel" "s" "[I"] ++ wsX30)
def wsX3_ifDivided_r1 : List Cond := [Cond.methodLink RX3 87 yX3_isMember, Cond.static yX3_isMember, Cond.initialized RX3, Cond.code yX3_isMember cX3_isMember 1 (some .boolean), Cond.methodLink RX3 27 yX3_in, Cond.static yX3_in, Cond.code yX3_in cX3_in 3 (some .boolean), Cond.methodLink RX3 94 yX3_holds, Cond.instanceMethod yX3_holds, Cond.selects RX3 yX3_holds yX3_holds, Cond.code yX3_holds cX3_holds 2 (some .boolean), Cond.fieldLink RX3 23 "PledgedLoansModel" "thrown" "I", Cond.methodLink RX3 131 yX3_share, Cond.instanceMethod yX3_share, Cond.selects RX3 yX3_share yX3_share, Cond.code yX3_share cX3_share 4 (some .int), Cond.fieldLink RX3 7 "PledgedLoansModel" "s" "[I", Cond.methodLink RX3 76 yX3_allDays, Cond.instanceMethod yX3_allDays, Cond.selects RX3 yX3_allDays yX3_allDays, Cond.code yX3_allDays cX3_allDays 4 (some .long), Cond.methodLink RX3 35 yX3_of, Cond.instanceMethod yX3_of, Cond.selects RX3 yX3_of yX3_of]
def wsX3_ifDivided_r2 : List Cond := [Cond.code yX3_of cX3_of 3 (some .int)]
def wsX3_ifDivided : List Cond := .code yX3_ifDivided cX3_ifDivided 2 (some .int) :: ((wsX3_ifDivided_r1 ++ wsX3_ifDivided_r2) ++ wsX30)
def wsX3_risky : List Cond := .code yX3_risky cX3_risky 6 (some .int) :: ([.methodLink RX3 35 yX3_of, .instanceMethod yX3_of, .selects RX3 yX3_of yX3_of, .initialized RX3, .code yX3_of cX3_of 3 (some .int), .fieldLink RX3 7 "PledgedLoansModel" "s" "[I", .methodLink RX3 42 yX3_own, .instanceMethod yX3_own, .selects RX3 yX3_own yX3_own, .code yX3_own cX3_own 2 (some .int), .methodLink RX3 38 yX3_pledgedBy, .instanceMethod yX3_pledgedBy, .selects RX3 yX3_pledgedBy yX3_pledgedBy, .code yX3_pledgedBy cX3_pledgedBy 4 (some .int), .methodLink RX3 31 yX3_pledgeOf, .instanceMethod yX3_pledgeOf, .selects RX3 yX3_pledgeOf yX3_pledgeOf, .code yX3_pledgeOf cX3_pledgeOf 3 (some .int)] ++ wsX30)
def wsX3_riskiest : List Cond := .code yX3_riskiest cX3_riskiest 1 (some .int) :: ([.fieldLink RX3 23 "PledgedLoansModel" "thrown" "I", .methodLink RX3 198 yX3_risky, .instanceMethod yX3_risky, .selects RX3 yX3_risky yX3_risky, .initialized RX3, .code yX3_risky cX3_risky 6 (some .int), .methodLink RX3 35 yX3_of, .instanceMethod yX3_of, .selects RX3 yX3_of yX3_of, .code yX3_of cX3_of 3 (some .int), .fieldLink RX3 7 "PledgedLoansModel" "s" "[I", .methodLink RX3 42 yX3_own, .instanceMethod yX3_own, .selects RX3 yX3_own yX3_own, .code yX3_own cX3_own 2 (some .int), .methodLink RX3 38 yX3_pledgedBy, .instanceMethod yX3_pledgedBy, .selects RX3 yX3_pledgedBy yX3_pledgedBy, .code yX3_pledgedBy cX3_pledgedBy 4 (some .int), .methodLink RX3 31 yX3_pledgeOf, .instanceMethod yX3_pledgeOf, .selects RX3 yX3_pledgeOf yX3_pledgeOf, .code yX3_pledgeOf cX3_pledgeOf 3 (some .int)] ++ wsX30)
def wsX3_lent : List Cond := .code yX3_lent cX3_lent 1 (some .double) :: ([.methodLink RX3 183 yX3_total, .instanceMethod yX3_total, .selects RX3 yX3_total yX3_total, .initialized RX3, .code yX3_total cX3_total 4 (some .int), .methodLink RX3 35 yX3_of, .instanceMethod yX3_of, .selects RX3 yX3_of yX3_of, .code yX3_of cX3_of 3 (some .int), .fieldLink RX3 7 "PledgedLoansModel" "s" "[I"] ++ wsX30)
def wsX3_lentShare : List Cond := .code yX3_lentShare cX3_lentShare 1 (some .double) :: ([.fieldLink RX3 23 "PledgedLoansModel" "thrown" "I", .methodLink RX3 201 yX3_lent, .instanceMethod yX3_lent, .selects RX3 yX3_lent yX3_lent, .initialized RX3, .code yX3_lent cX3_lent 1 (some .double), .methodLink RX3 183 yX3_total, .instanceMethod yX3_total, .selects RX3 yX3_total yX3_total, .code yX3_total cX3_total 4 (some .int), .methodLink RX3 35 yX3_of, .instanceMethod yX3_of, .selects RX3 yX3_of yX3_of, .code yX3_of cX3_of 3 (some .int), .fieldLink RX3 7 "PledgedLoansModel" "s" "[I"] ++ wsX30)
def wsX3_mix : List Cond := .code yX3_mix cX3_mix 3 none :: ([.constantLong RX3 205 (31), .fieldLink RX3 207 "PledgedLoansModel" "hash" "J"] ++ wsX30)
def wsX3_bits : List Cond := .code yX3_bits cX3_bits 6 (some .long) :: ([.constantLong RX3 211 (1023), .constantDouble RX3 213 (4611686018427387904), .constantLong RX3 215 (4503599627370496), .constantDouble RX3 217 (4841369599423283200)])
def wsX3_mixMember_r1 : List Cond := [Cond.methodLink RX3 180 yX3_property, Cond.instanceMethod yX3_property, Cond.selects RX3 yX3_property yX3_property, Cond.initialized RX3, Cond.code yX3_property cX3_property 3 (some .int), Cond.methodLink RX3 35 yX3_of, Cond.instanceMethod yX3_of, Cond.selects RX3 yX3_of yX3_of, Cond.code yX3_of cX3_of 3 (some .int), Cond.fieldLink RX3 7 "PledgedLoansModel" "s" "[I", Cond.methodLink RX3 38 yX3_pledgedBy, Cond.instanceMethod yX3_pledgedBy, Cond.selects RX3 yX3_pledgedBy yX3_pledgedBy, Cond.code yX3_pledgedBy cX3_pledgedBy 4 (some .int), Cond.methodLink RX3 31 yX3_pledgeOf, Cond.instanceMethod yX3_pledgeOf, Cond.selects RX3 yX3_pledgeOf yX3_pledgeOf, Cond.code yX3_pledgeOf cX3_pledgeOf 3 (some .int), Cond.methodLink RX3 45 yX3_pledgedFor, Cond.instanceMethod yX3_pledgedFor, Cond.selects RX3 yX3_pledgedFor yX3_pledgedFor, Cond.code yX3_pledgedFor cX3_pledgedFor 4 (some .int), Cond.methodLink RX3 48 yX3_cover, Cond.instanceMethod yX3_cover]
def wsX3_mixMember_r2 : List Cond := [Cond.selects RX3 yX3_cover yX3_cover, Cond.code yX3_cover cX3_cover 2 (some .int), Cond.methodLink RX3 42 yX3_own, Cond.instanceMethod yX3_own, Cond.selects RX3 yX3_own yX3_own, Cond.code yX3_own cX3_own 2 (some .int), Cond.methodLink RX3 62 yX3_free, Cond.instanceMethod yX3_free, Cond.selects RX3 yX3_free yX3_free, Cond.code yX3_free cX3_free 3 (some .int), Cond.methodLink RX3 219 yX3_mix, Cond.instanceMethod yX3_mix, Cond.selects RX3 yX3_mix yX3_mix, Cond.code yX3_mix cX3_mix 3 none, Cond.constantLong RX3 205 (31), Cond.fieldLink RX3 207 "PledgedLoansModel" "hash" "J", Cond.methodLink RX3 189 yX3_most, Cond.instanceMethod yX3_most, Cond.selects RX3 yX3_most yX3_most, Cond.code yX3_most cX3_most 3 (some .int), Cond.methodLink RX3 65 yX3_reason, Cond.instanceMethod yX3_reason, Cond.selects RX3 yX3_reason yX3_reason, Cond.code yX3_reason cX3_reason 3 (some .int)]
def wsX3_mixMember_r3 : List Cond := [Cond.methodLink RX3 51 yX3_fee, Cond.static yX3_fee, Cond.code yX3_fee cX3_fee 2 (some .int), Cond.methodLink RX3 192 yX3_fewest, Cond.instanceMethod yX3_fewest, Cond.selects RX3 yX3_fewest yX3_fewest, Cond.code yX3_fewest cX3_fewest 7 (some .int), Cond.fieldLink RX3 20 "PledgedLoansModel" "frees" "[I", Cond.methodLink RX3 195 yX3_lasts, Cond.instanceMethod yX3_lasts, Cond.selects RX3 yX3_lasts yX3_lasts, Cond.code yX3_lasts cX3_lasts 3 (some .int), Cond.methodLink RX3 131 yX3_share, Cond.instanceMethod yX3_share, Cond.selects RX3 yX3_share yX3_share, Cond.code yX3_share cX3_share 4 (some .int), Cond.methodLink RX3 76 yX3_allDays, Cond.instanceMethod yX3_allDays, Cond.selects RX3 yX3_allDays yX3_allDays, Cond.code yX3_allDays cX3_allDays 4 (some .long)]
def wsX3_mixMember : List Cond := .code yX3_mixMember cX3_mixMember 3 none :: ((wsX3_mixMember_r1 ++ (wsX3_mixMember_r2 ++ wsX3_mixMember_r3)) ++ wsX30)
def wsX3_digest_r1 : List Cond := [Cond.fieldLink RX3 23 "PledgedLoansModel" "thrown" "I", Cond.constantLong RX3 223 (3607), Cond.fieldLink RX3 207 "PledgedLoansModel" "hash" "J", Cond.fieldLink RX3 7 "PledgedLoansModel" "s" "[I", Cond.fieldLink RX3 13 "PledgedLoansModel" "isKept" "[Z", Cond.fieldLink RX3 134 "PledgedLoansModel" "length" "I", Cond.fieldLink RX3 17 "PledgedLoansModel" "text" "[I", Cond.methodLink RX3 186 yX3_counted, Cond.instanceMethod yX3_counted, Cond.selects RX3 yX3_counted yX3_counted, Cond.initialized RX3, Cond.code yX3_counted cX3_counted 2 (some .int), Cond.fieldLink RX3 80 "PledgedLoansModel" "saved" "I", Cond.methodLink RX3 183 yX3_total, Cond.instanceMethod yX3_total, Cond.selects RX3 yX3_total yX3_total, Cond.code yX3_total cX3_total 4 (some .int), Cond.methodLink RX3 35 yX3_of, Cond.instanceMethod yX3_of, Cond.selects RX3 yX3_of yX3_of, Cond.code yX3_of cX3_of 3 (some .int), Cond.methodLink RX3 177 yX3_loans, Cond.instanceMethod yX3_loans, Cond.selects RX3 yX3_loans yX3_loans]
def wsX3_digest_r2 : List Cond := [Cond.code yX3_loans cX3_loans 3 (some .int), Cond.methodLink RX3 219 yX3_mix, Cond.instanceMethod yX3_mix, Cond.selects RX3 yX3_mix yX3_mix, Cond.code yX3_mix cX3_mix 3 none, Cond.constantLong RX3 205 (31), Cond.methodLink RX3 225 yX3_mixMember, Cond.instanceMethod yX3_mixMember, Cond.selects RX3 yX3_mixMember yX3_mixMember, Cond.code yX3_mixMember cX3_mixMember 3 none, Cond.methodLink RX3 180 yX3_property, Cond.instanceMethod yX3_property, Cond.selects RX3 yX3_property yX3_property, Cond.code yX3_property cX3_property 3 (some .int), Cond.methodLink RX3 38 yX3_pledgedBy, Cond.instanceMethod yX3_pledgedBy, Cond.selects RX3 yX3_pledgedBy yX3_pledgedBy, Cond.code yX3_pledgedBy cX3_pledgedBy 4 (some .int), Cond.methodLink RX3 31 yX3_pledgeOf, Cond.instanceMethod yX3_pledgeOf, Cond.selects RX3 yX3_pledgeOf yX3_pledgeOf, Cond.code yX3_pledgeOf cX3_pledgeOf 3 (some .int), Cond.methodLink RX3 45 yX3_pledgedFor, Cond.instanceMethod yX3_pledgedFor]
def wsX3_digest_r3 : List Cond := [Cond.selects RX3 yX3_pledgedFor yX3_pledgedFor, Cond.code yX3_pledgedFor cX3_pledgedFor 4 (some .int), Cond.methodLink RX3 48 yX3_cover, Cond.instanceMethod yX3_cover, Cond.selects RX3 yX3_cover yX3_cover, Cond.code yX3_cover cX3_cover 2 (some .int), Cond.methodLink RX3 42 yX3_own, Cond.instanceMethod yX3_own, Cond.selects RX3 yX3_own yX3_own, Cond.code yX3_own cX3_own 2 (some .int), Cond.methodLink RX3 62 yX3_free, Cond.instanceMethod yX3_free, Cond.selects RX3 yX3_free yX3_free, Cond.code yX3_free cX3_free 3 (some .int), Cond.methodLink RX3 189 yX3_most, Cond.instanceMethod yX3_most, Cond.selects RX3 yX3_most yX3_most, Cond.code yX3_most cX3_most 3 (some .int), Cond.methodLink RX3 65 yX3_reason, Cond.instanceMethod yX3_reason, Cond.selects RX3 yX3_reason yX3_reason, Cond.code yX3_reason cX3_reason 3 (some .int), Cond.methodLink RX3 51 yX3_fee, Cond.static yX3_fee]
def wsX3_digest_r4 : List Cond := [Cond.code yX3_fee cX3_fee 2 (some .int), Cond.methodLink RX3 192 yX3_fewest, Cond.instanceMethod yX3_fewest, Cond.selects RX3 yX3_fewest yX3_fewest, Cond.code yX3_fewest cX3_fewest 7 (some .int), Cond.fieldLink RX3 20 "PledgedLoansModel" "frees" "[I", Cond.methodLink RX3 195 yX3_lasts, Cond.instanceMethod yX3_lasts, Cond.selects RX3 yX3_lasts yX3_lasts, Cond.code yX3_lasts cX3_lasts 3 (some .int), Cond.methodLink RX3 131 yX3_share, Cond.instanceMethod yX3_share, Cond.selects RX3 yX3_share yX3_share, Cond.code yX3_share cX3_share 4 (some .int), Cond.methodLink RX3 76 yX3_allDays, Cond.instanceMethod yX3_allDays, Cond.selects RX3 yX3_allDays yX3_allDays, Cond.code yX3_allDays cX3_allDays 4 (some .long), Cond.methodLink RX3 198 yX3_risky, Cond.instanceMethod yX3_risky, Cond.selects RX3 yX3_risky yX3_risky, Cond.code yX3_risky cX3_risky 6 (some .int), Cond.methodLink RX3 201 yX3_lent, Cond.instanceMethod yX3_lent]
def wsX3_digest_r5 : List Cond := [Cond.selects RX3 yX3_lent yX3_lent, Cond.code yX3_lent cX3_lent 1 (some .double), Cond.methodLink RX3 228 yX3_bits, Cond.static yX3_bits, Cond.code yX3_bits cX3_bits 6 (some .long), Cond.constantLong RX3 211 (1023), Cond.constantDouble RX3 213 (4611686018427387904), Cond.constantLong RX3 215 (4503599627370496), Cond.constantDouble RX3 217 (4841369599423283200)]
def wsX3_digest : List Cond := .code yX3_digest cX3_digest 2 (some .long) :: ((wsX3_digest_r1 ++ (wsX3_digest_r2 ++ (wsX3_digest_r3 ++ (wsX3_digest_r4 ++ wsX3_digest_r5)))) ++ wsX30)
def wsJ9_max_7cf53 : List Cond := .code yJ9_max_7cf53 cJ9_max_7cf53 2 (some .int) :: ([])
def wsJ9_min_7cf53 : List Cond := .code yJ9_min_7cf53 cJ9_min_7cf53 2 (some .int) :: ([])
def wsL_payIn_r1 : List Cond := [Cond.classLink RL 13 "java/lang/IndexOutOfBoundsException", Cond.classLink RL 15 "java/lang/IllegalArgumentException", Cond.methodLink RL 7 yX2_payIn, Cond.instanceMethod yX2_payIn, Cond.selects RX2 yX2_payIn yX2_payIn, Cond.initialized RX2, Cond.code yX2_payIn cX2_payIn 3 (some .int), Cond.fieldLink RX2 10 "PledgedLoans" "books" "LPledgedLoans$Books;", Cond.methodLink RX2 42 yX2_checkMember, Cond.static yX2_checkMember, Cond.code yX2_checkMember cX2_checkMember 1 none, Cond.classLink RX2 208 "java/lang/IndexOutOfBoundsException", Cond.initialized "java/lang/IndexOutOfBoundsException", Cond.methodLink RX2 46 yX2_checkAmount, Cond.static yX2_checkAmount, Cond.code yX2_checkAmount cX2_checkAmount 1 none, Cond.methodLink RX2 70 yX2_checkRange, Cond.static yX2_checkRange, Cond.code yX2_checkRange cX2_checkRange 3 none, Cond.classLink RX2 126 "java/lang/IllegalArgumentException", Cond.initialized "java/lang/IllegalArgumentException", Cond.methodLink RX2 49 yX2_saveState, Cond.instanceMethod yX2_saveState, Cond.selects RX2 yX2_saveState yX2_saveState]
def wsL_payIn_r2 : List Cond := [Cond.code yX2_saveState cX2_saveState 1 none, Cond.fieldLink RX2 143 "PledgedLoans" "savedStates" "I", Cond.fieldLink RX2 16 "PledgedLoans" "saved" "[LPledgedLoans$Books;", Cond.methodLink RX2 219 yX2_dropOldest, Cond.instanceMethod yX2_dropOldest, Cond.selects RX2 yX2_dropOldest yX2_dropOldest, Cond.code yX2_dropOldest cX2_dropOldest 3 none, Cond.methodLink RX2 134 yX0_copyFrom, Cond.instanceMethod yX0_copyFrom, Cond.selects RX0 yX0_copyFrom yX0_copyFrom, Cond.initialized RX0, Cond.code yX0_copyFrom cX0_copyFrom 2 none, Cond.fieldLink RX0 9 "PledgedLoans$Books" "shares" "[I", Cond.fieldLink RX0 15 "PledgedLoans$Books" "shareDays" "[I", Cond.fieldLink RX0 18 "PledgedLoans$Books" "pledges" "[I", Cond.fieldLink RX0 21 "PledgedLoans$Books" "rest" "[I", Cond.fieldLink RX0 24 "PledgedLoans$Books" "part" "[I", Cond.fieldLink RX0 27 "PledgedLoans$Books" "paid" "[I", Cond.fieldLink RX0 30 "PledgedLoans$Books" "misses" "[I", Cond.fieldLink RX0 33 "PledgedLoans$Books" "settings" "[I", Cond.fieldLink RX0 40 "PledgedLoans$Books" "till" "I", Cond.fieldLink RX0 44 "PledgedLoans$Books" "surplus" "I", Cond.fieldLink RX0 47 "PledgedLoans$Books" "loansGiven" "I", Cond.fieldLink RX0 50 "PledgedLoans$Books" "loansFallenDue" "I"]
def wsL_payIn_r3 : List Cond := [Cond.fieldLink RX0 53 "PledgedLoans$Books" "weeksEnded" "I", Cond.fieldLink RX0 56 "PledgedLoans$Books" "day" "I", Cond.fieldLink RX0 59 "PledgedLoans$Books" "refused" "I", Cond.fieldLink RX0 62 "PledgedLoans$Books" "dividendsPaid" "I", Cond.methodLink RX0 36 yX0_copyRow, Cond.static yX0_copyRow, Cond.code yX0_copyRow cX0_copyRow 2 none, Cond.methodLink RX0 65 Lib.Math.min.name, Cond.static Lib.Math.min.name, Cond.initialized "java/lang/Math", Cond.code Lib.Math.min.name Lib.Math.min.code 2 (some .int), Cond.methodLink RX0 71 arraycopyName, Cond.native arraycopyName, Cond.static arraycopyName, Cond.initialized "java/lang/System", Cond.methodLink RX2 52 yX0_takeIn, Cond.instanceMethod yX0_takeIn, Cond.selects RX0 yX0_takeIn yX0_takeIn, Cond.code yX0_takeIn cX0_takeIn 4 (some .int), Cond.constant RX0 100 (90000)]
def wsL_payIn : List Cond := .codeWith yL_payIn cL_payIn 5 (some .int) [(0, 10, 13, 13), (0, 10, 17, 15)] :: ((wsL_payIn_r1 ++ (wsL_payIn_r2 ++ wsL_payIn_r3)) ++ wsX20 ++ wsX00 ++ (vx_atS RX2 212 "java/lang/IndexOutOfBoundsException" ["java/lang/RuntimeException", "java/lang/Exception"]).filter goodWord ++ (vx_atS RX2 130 "java/lang/IllegalArgumentException" ["java/lang/RuntimeException", "java/lang/Exception"]).filter goodWord)
def wsL_payOut_r1 : List Cond := [Cond.classLink RL 13 "java/lang/IndexOutOfBoundsException", Cond.classLink RL 15 "java/lang/IllegalArgumentException", Cond.methodLink RL 17 yX2_payOut, Cond.instanceMethod yX2_payOut, Cond.selects RX2 yX2_payOut yX2_payOut, Cond.initialized RX2, Cond.code yX2_payOut cX2_payOut 3 (some .int), Cond.fieldLink RX2 10 "PledgedLoans" "books" "LPledgedLoans$Books;", Cond.methodLink RX2 42 yX2_checkMember, Cond.static yX2_checkMember, Cond.code yX2_checkMember cX2_checkMember 1 none, Cond.classLink RX2 208 "java/lang/IndexOutOfBoundsException", Cond.initialized "java/lang/IndexOutOfBoundsException", Cond.methodLink RX2 46 yX2_checkAmount, Cond.static yX2_checkAmount, Cond.code yX2_checkAmount cX2_checkAmount 1 none, Cond.methodLink RX2 70 yX2_checkRange, Cond.static yX2_checkRange, Cond.code yX2_checkRange cX2_checkRange 3 none, Cond.classLink RX2 126 "java/lang/IllegalArgumentException", Cond.initialized "java/lang/IllegalArgumentException", Cond.methodLink RX2 49 yX2_saveState, Cond.instanceMethod yX2_saveState, Cond.selects RX2 yX2_saveState yX2_saveState]
def wsL_payOut_r2 : List Cond := [Cond.code yX2_saveState cX2_saveState 1 none, Cond.fieldLink RX2 143 "PledgedLoans" "savedStates" "I", Cond.fieldLink RX2 16 "PledgedLoans" "saved" "[LPledgedLoans$Books;", Cond.methodLink RX2 219 yX2_dropOldest, Cond.instanceMethod yX2_dropOldest, Cond.selects RX2 yX2_dropOldest yX2_dropOldest, Cond.code yX2_dropOldest cX2_dropOldest 3 none, Cond.methodLink RX2 134 yX0_copyFrom, Cond.instanceMethod yX0_copyFrom, Cond.selects RX0 yX0_copyFrom yX0_copyFrom, Cond.initialized RX0, Cond.code yX0_copyFrom cX0_copyFrom 2 none, Cond.fieldLink RX0 9 "PledgedLoans$Books" "shares" "[I", Cond.fieldLink RX0 15 "PledgedLoans$Books" "shareDays" "[I", Cond.fieldLink RX0 18 "PledgedLoans$Books" "pledges" "[I", Cond.fieldLink RX0 21 "PledgedLoans$Books" "rest" "[I", Cond.fieldLink RX0 24 "PledgedLoans$Books" "part" "[I", Cond.fieldLink RX0 27 "PledgedLoans$Books" "paid" "[I", Cond.fieldLink RX0 30 "PledgedLoans$Books" "misses" "[I", Cond.fieldLink RX0 33 "PledgedLoans$Books" "settings" "[I", Cond.fieldLink RX0 40 "PledgedLoans$Books" "till" "I", Cond.fieldLink RX0 44 "PledgedLoans$Books" "surplus" "I", Cond.fieldLink RX0 47 "PledgedLoans$Books" "loansGiven" "I", Cond.fieldLink RX0 50 "PledgedLoans$Books" "loansFallenDue" "I"]
def wsL_payOut_r3 : List Cond := [Cond.fieldLink RX0 53 "PledgedLoans$Books" "weeksEnded" "I", Cond.fieldLink RX0 56 "PledgedLoans$Books" "day" "I", Cond.fieldLink RX0 59 "PledgedLoans$Books" "refused" "I", Cond.fieldLink RX0 62 "PledgedLoans$Books" "dividendsPaid" "I", Cond.methodLink RX0 36 yX0_copyRow, Cond.static yX0_copyRow, Cond.code yX0_copyRow cX0_copyRow 2 none, Cond.methodLink RX0 65 Lib.Math.min.name, Cond.static Lib.Math.min.name, Cond.initialized "java/lang/Math", Cond.code Lib.Math.min.name Lib.Math.min.code 2 (some .int), Cond.methodLink RX0 71 arraycopyName, Cond.native arraycopyName, Cond.static arraycopyName, Cond.initialized "java/lang/System", Cond.methodLink RX2 56 yX0_giveOut, Cond.instanceMethod yX0_giveOut, Cond.selects RX0 yX0_giveOut yX0_giveOut, Cond.code yX0_giveOut cX0_giveOut 3 (some .int), Cond.methodLink RX0 97 yX0_freeShares, Cond.instanceMethod yX0_freeShares, Cond.selects RX0 yX0_freeShares yX0_freeShares, Cond.code yX0_freeShares cX0_freeShares 2 (some .int), Cond.methodLink RX0 91 Lib.Math.max.name]
def wsL_payOut_r4 : List Cond := [Cond.static Lib.Math.max.name, Cond.code Lib.Math.max.name Lib.Math.max.code 2 (some .int), Cond.methodLink RX0 85 yX0_ownLeft, Cond.instanceMethod yX0_ownLeft, Cond.selects RX0 yX0_ownLeft yX0_ownLeft, Cond.code yX0_ownLeft cX0_ownLeft 2 (some .int), Cond.methodLink RX0 81 yX0_pledgedBy, Cond.instanceMethod yX0_pledgedBy, Cond.selects RX0 yX0_pledgedBy yX0_pledgedBy, Cond.code yX0_pledgedBy cX0_pledgedBy 5 (some .int), Cond.methodLink RX0 88 yX0_pledgedFor, Cond.instanceMethod yX0_pledgedFor, Cond.selects RX0 yX0_pledgedFor yX0_pledgedFor, Cond.code yX0_pledgedFor cX0_pledgedFor 4 (some .int)]
def wsL_payOut : List Cond := .codeWith yL_payOut cL_payOut 5 (some .int) [(0, 10, 13, 13), (0, 10, 17, 15)] :: ((wsL_payOut_r1 ++ (wsL_payOut_r2 ++ (wsL_payOut_r3 ++ wsL_payOut_r4))) ++ wsX20 ++ wsX00 ++ (vx_atS RX2 212 "java/lang/IndexOutOfBoundsException" ["java/lang/RuntimeException", "java/lang/Exception"]).filter goodWord ++ (vx_atS RX2 130 "java/lang/IllegalArgumentException" ["java/lang/RuntimeException", "java/lang/Exception"]).filter goodWord)
def wsL_pledge_r1 : List Cond := [Cond.classLink RL 13 "java/lang/IndexOutOfBoundsException", Cond.classLink RL 15 "java/lang/IllegalArgumentException", Cond.methodLink RL 20 yX2_pledge, Cond.instanceMethod yX2_pledge, Cond.selects RX2 yX2_pledge yX2_pledge, Cond.initialized RX2, Cond.code yX2_pledge cX2_pledge 4 (some .int), Cond.fieldLink RX2 10 "PledgedLoans" "books" "LPledgedLoans$Books;", Cond.methodLink RX2 59 yX2_checkPair, Cond.static yX2_checkPair, Cond.code yX2_checkPair cX2_checkPair 2 none, Cond.classLink RX2 126 "java/lang/IllegalArgumentException", Cond.initialized "java/lang/IllegalArgumentException", Cond.methodLink RX2 42 yX2_checkMember, Cond.static yX2_checkMember, Cond.code yX2_checkMember cX2_checkMember 1 none, Cond.classLink RX2 208 "java/lang/IndexOutOfBoundsException", Cond.initialized "java/lang/IndexOutOfBoundsException", Cond.methodLink RX2 46 yX2_checkAmount, Cond.static yX2_checkAmount, Cond.code yX2_checkAmount cX2_checkAmount 1 none, Cond.methodLink RX2 70 yX2_checkRange, Cond.static yX2_checkRange, Cond.code yX2_checkRange cX2_checkRange 3 none]
def wsL_pledge_r2 : List Cond := [Cond.methodLink RX2 49 yX2_saveState, Cond.instanceMethod yX2_saveState, Cond.selects RX2 yX2_saveState yX2_saveState, Cond.code yX2_saveState cX2_saveState 1 none, Cond.fieldLink RX2 143 "PledgedLoans" "savedStates" "I", Cond.fieldLink RX2 16 "PledgedLoans" "saved" "[LPledgedLoans$Books;", Cond.methodLink RX2 219 yX2_dropOldest, Cond.instanceMethod yX2_dropOldest, Cond.selects RX2 yX2_dropOldest yX2_dropOldest, Cond.code yX2_dropOldest cX2_dropOldest 3 none, Cond.methodLink RX2 134 yX0_copyFrom, Cond.instanceMethod yX0_copyFrom, Cond.selects RX0 yX0_copyFrom yX0_copyFrom, Cond.initialized RX0, Cond.code yX0_copyFrom cX0_copyFrom 2 none, Cond.fieldLink RX0 9 "PledgedLoans$Books" "shares" "[I", Cond.fieldLink RX0 15 "PledgedLoans$Books" "shareDays" "[I", Cond.fieldLink RX0 18 "PledgedLoans$Books" "pledges" "[I", Cond.fieldLink RX0 21 "PledgedLoans$Books" "rest" "[I", Cond.fieldLink RX0 24 "PledgedLoans$Books" "part" "[I", Cond.fieldLink RX0 27 "PledgedLoans$Books" "paid" "[I", Cond.fieldLink RX0 30 "PledgedLoans$Books" "misses" "[I", Cond.fieldLink RX0 33 "PledgedLoans$Books" "settings" "[I", Cond.fieldLink RX0 40 "PledgedLoans$Books" "till" "I"]
def wsL_pledge_r3 : List Cond := [Cond.fieldLink RX0 44 "PledgedLoans$Books" "surplus" "I", Cond.fieldLink RX0 47 "PledgedLoans$Books" "loansGiven" "I", Cond.fieldLink RX0 50 "PledgedLoans$Books" "loansFallenDue" "I", Cond.fieldLink RX0 53 "PledgedLoans$Books" "weeksEnded" "I", Cond.fieldLink RX0 56 "PledgedLoans$Books" "day" "I", Cond.fieldLink RX0 59 "PledgedLoans$Books" "refused" "I", Cond.fieldLink RX0 62 "PledgedLoans$Books" "dividendsPaid" "I", Cond.methodLink RX0 36 yX0_copyRow, Cond.static yX0_copyRow, Cond.code yX0_copyRow cX0_copyRow 2 none, Cond.methodLink RX0 65 Lib.Math.min.name, Cond.static Lib.Math.min.name, Cond.initialized "java/lang/Math", Cond.code Lib.Math.min.name Lib.Math.min.code 2 (some .int), Cond.methodLink RX0 71 arraycopyName, Cond.native arraycopyName, Cond.static arraycopyName, Cond.initialized "java/lang/System", Cond.methodLink RX2 63 yX0_addPledge, Cond.instanceMethod yX0_addPledge, Cond.selects RX0 yX0_addPledge yX0_addPledge, Cond.code yX0_addPledge cX0_addPledge 5 (some .int), Cond.methodLink RX0 97 yX0_freeShares, Cond.instanceMethod yX0_freeShares]
def wsL_pledge_r4 : List Cond := [Cond.selects RX0 yX0_freeShares yX0_freeShares, Cond.code yX0_freeShares cX0_freeShares 2 (some .int), Cond.methodLink RX0 91 Lib.Math.max.name, Cond.static Lib.Math.max.name, Cond.code Lib.Math.max.name Lib.Math.max.code 2 (some .int), Cond.methodLink RX0 85 yX0_ownLeft, Cond.instanceMethod yX0_ownLeft, Cond.selects RX0 yX0_ownLeft yX0_ownLeft, Cond.code yX0_ownLeft cX0_ownLeft 2 (some .int), Cond.methodLink RX0 81 yX0_pledgedBy, Cond.instanceMethod yX0_pledgedBy, Cond.selects RX0 yX0_pledgedBy yX0_pledgedBy, Cond.code yX0_pledgedBy cX0_pledgedBy 5 (some .int), Cond.methodLink RX0 88 yX0_pledgedFor, Cond.instanceMethod yX0_pledgedFor, Cond.selects RX0 yX0_pledgedFor yX0_pledgedFor, Cond.code yX0_pledgedFor cX0_pledgedFor 4 (some .int), Cond.methodLink RX0 101 yX0_place, Cond.static yX0_place, Cond.code yX0_place cX0_place 2 (some .int)]
def wsL_pledge : List Cond := .codeWith yL_pledge cL_pledge 6 (some .int) [(0, 12, 15, 13), (0, 12, 19, 15)] :: ((wsL_pledge_r1 ++ (wsL_pledge_r2 ++ (wsL_pledge_r3 ++ wsL_pledge_r4))) ++ wsX20 ++ wsX00 ++ (vx_atS RX2 130 "java/lang/IllegalArgumentException" ["java/lang/RuntimeException", "java/lang/Exception"]).filter goodWord ++ (vx_atS RX2 212 "java/lang/IndexOutOfBoundsException" ["java/lang/RuntimeException", "java/lang/Exception"]).filter goodWord)
def wsL_unpledge_r1 : List Cond := [Cond.classLink RL 13 "java/lang/IndexOutOfBoundsException", Cond.classLink RL 15 "java/lang/IllegalArgumentException", Cond.methodLink RL 24 yX2_unpledge, Cond.instanceMethod yX2_unpledge, Cond.selects RX2 yX2_unpledge yX2_unpledge, Cond.initialized RX2, Cond.code yX2_unpledge cX2_unpledge 4 (some .int), Cond.fieldLink RX2 10 "PledgedLoans" "books" "LPledgedLoans$Books;", Cond.methodLink RX2 59 yX2_checkPair, Cond.static yX2_checkPair, Cond.code yX2_checkPair cX2_checkPair 2 none, Cond.classLink RX2 126 "java/lang/IllegalArgumentException", Cond.initialized "java/lang/IllegalArgumentException", Cond.methodLink RX2 42 yX2_checkMember, Cond.static yX2_checkMember, Cond.code yX2_checkMember cX2_checkMember 1 none, Cond.classLink RX2 208 "java/lang/IndexOutOfBoundsException", Cond.initialized "java/lang/IndexOutOfBoundsException", Cond.methodLink RX2 46 yX2_checkAmount, Cond.static yX2_checkAmount, Cond.code yX2_checkAmount cX2_checkAmount 1 none, Cond.methodLink RX2 70 yX2_checkRange, Cond.static yX2_checkRange, Cond.code yX2_checkRange cX2_checkRange 3 none]
def wsL_unpledge_r2 : List Cond := [Cond.methodLink RX2 49 yX2_saveState, Cond.instanceMethod yX2_saveState, Cond.selects RX2 yX2_saveState yX2_saveState, Cond.code yX2_saveState cX2_saveState 1 none, Cond.fieldLink RX2 143 "PledgedLoans" "savedStates" "I", Cond.fieldLink RX2 16 "PledgedLoans" "saved" "[LPledgedLoans$Books;", Cond.methodLink RX2 219 yX2_dropOldest, Cond.instanceMethod yX2_dropOldest, Cond.selects RX2 yX2_dropOldest yX2_dropOldest, Cond.code yX2_dropOldest cX2_dropOldest 3 none, Cond.methodLink RX2 134 yX0_copyFrom, Cond.instanceMethod yX0_copyFrom, Cond.selects RX0 yX0_copyFrom yX0_copyFrom, Cond.initialized RX0, Cond.code yX0_copyFrom cX0_copyFrom 2 none, Cond.fieldLink RX0 9 "PledgedLoans$Books" "shares" "[I", Cond.fieldLink RX0 15 "PledgedLoans$Books" "shareDays" "[I", Cond.fieldLink RX0 18 "PledgedLoans$Books" "pledges" "[I", Cond.fieldLink RX0 21 "PledgedLoans$Books" "rest" "[I", Cond.fieldLink RX0 24 "PledgedLoans$Books" "part" "[I", Cond.fieldLink RX0 27 "PledgedLoans$Books" "paid" "[I", Cond.fieldLink RX0 30 "PledgedLoans$Books" "misses" "[I", Cond.fieldLink RX0 33 "PledgedLoans$Books" "settings" "[I", Cond.fieldLink RX0 40 "PledgedLoans$Books" "till" "I"]
def wsL_unpledge_r3 : List Cond := [Cond.fieldLink RX0 44 "PledgedLoans$Books" "surplus" "I", Cond.fieldLink RX0 47 "PledgedLoans$Books" "loansGiven" "I", Cond.fieldLink RX0 50 "PledgedLoans$Books" "loansFallenDue" "I", Cond.fieldLink RX0 53 "PledgedLoans$Books" "weeksEnded" "I", Cond.fieldLink RX0 56 "PledgedLoans$Books" "day" "I", Cond.fieldLink RX0 59 "PledgedLoans$Books" "refused" "I", Cond.fieldLink RX0 62 "PledgedLoans$Books" "dividendsPaid" "I", Cond.methodLink RX0 36 yX0_copyRow, Cond.static yX0_copyRow, Cond.code yX0_copyRow cX0_copyRow 2 none, Cond.methodLink RX0 65 Lib.Math.min.name, Cond.static Lib.Math.min.name, Cond.initialized "java/lang/Math", Cond.code Lib.Math.min.name Lib.Math.min.code 2 (some .int), Cond.methodLink RX0 71 arraycopyName, Cond.native arraycopyName, Cond.static arraycopyName, Cond.initialized "java/lang/System", Cond.methodLink RX2 67 yX0_dropPledge, Cond.instanceMethod yX0_dropPledge, Cond.selects RX0 yX0_dropPledge yX0_dropPledge, Cond.code yX0_dropPledge cX0_dropPledge 5 (some .int), Cond.methodLink RX0 101 yX0_place, Cond.static yX0_place]
def wsL_unpledge_r4 : List Cond := [Cond.code yX0_place cX0_place 2 (some .int), Cond.methodLink RX0 94 yX0_cover, Cond.instanceMethod yX0_cover, Cond.selects RX0 yX0_cover yX0_cover, Cond.code yX0_cover cX0_cover 2 (some .int), Cond.methodLink RX0 85 yX0_ownLeft, Cond.instanceMethod yX0_ownLeft, Cond.selects RX0 yX0_ownLeft yX0_ownLeft, Cond.code yX0_ownLeft cX0_ownLeft 2 (some .int), Cond.methodLink RX0 81 yX0_pledgedBy, Cond.instanceMethod yX0_pledgedBy, Cond.selects RX0 yX0_pledgedBy yX0_pledgedBy, Cond.code yX0_pledgedBy cX0_pledgedBy 5 (some .int), Cond.methodLink RX0 88 yX0_pledgedFor, Cond.instanceMethod yX0_pledgedFor, Cond.selects RX0 yX0_pledgedFor yX0_pledgedFor, Cond.code yX0_pledgedFor cX0_pledgedFor 4 (some .int)]
def wsL_unpledge : List Cond := .codeWith yL_unpledge cL_unpledge 6 (some .int) [(0, 12, 15, 13), (0, 12, 19, 15)] :: ((wsL_unpledge_r1 ++ (wsL_unpledge_r2 ++ (wsL_unpledge_r3 ++ wsL_unpledge_r4))) ++ wsX20 ++ wsX00 ++ (vx_atS RX2 130 "java/lang/IllegalArgumentException" ["java/lang/RuntimeException", "java/lang/Exception"]).filter goodWord ++ (vx_atS RX2 212 "java/lang/IndexOutOfBoundsException" ["java/lang/RuntimeException", "java/lang/Exception"]).filter goodWord)
def wsL_borrow_r1 : List Cond := [Cond.classLink RL 13 "java/lang/IndexOutOfBoundsException", Cond.classLink RL 15 "java/lang/IllegalArgumentException", Cond.methodLink RL 27 yX2_borrow, Cond.instanceMethod yX2_borrow, Cond.selects RX2 yX2_borrow yX2_borrow, Cond.initialized RX2, Cond.code yX2_borrow cX2_borrow 4 (some .int), Cond.fieldLink RX2 10 "PledgedLoans" "books" "LPledgedLoans$Books;", Cond.methodLink RX2 42 yX2_checkMember, Cond.static yX2_checkMember, Cond.code yX2_checkMember cX2_checkMember 1 none, Cond.classLink RX2 208 "java/lang/IndexOutOfBoundsException", Cond.initialized "java/lang/IndexOutOfBoundsException", Cond.methodLink RX2 46 yX2_checkAmount, Cond.static yX2_checkAmount, Cond.code yX2_checkAmount cX2_checkAmount 1 none, Cond.methodLink RX2 70 yX2_checkRange, Cond.static yX2_checkRange, Cond.code yX2_checkRange cX2_checkRange 3 none, Cond.classLink RX2 126 "java/lang/IllegalArgumentException", Cond.initialized "java/lang/IllegalArgumentException", Cond.methodLink RX2 49 yX2_saveState, Cond.instanceMethod yX2_saveState, Cond.selects RX2 yX2_saveState yX2_saveState]
def wsL_borrow_r2 : List Cond := [Cond.code yX2_saveState cX2_saveState 1 none, Cond.fieldLink RX2 143 "PledgedLoans" "savedStates" "I", Cond.fieldLink RX2 16 "PledgedLoans" "saved" "[LPledgedLoans$Books;", Cond.methodLink RX2 219 yX2_dropOldest, Cond.instanceMethod yX2_dropOldest, Cond.selects RX2 yX2_dropOldest yX2_dropOldest, Cond.code yX2_dropOldest cX2_dropOldest 3 none, Cond.methodLink RX2 134 yX0_copyFrom, Cond.instanceMethod yX0_copyFrom, Cond.selects RX0 yX0_copyFrom yX0_copyFrom, Cond.initialized RX0, Cond.code yX0_copyFrom cX0_copyFrom 2 none, Cond.fieldLink RX0 9 "PledgedLoans$Books" "shares" "[I", Cond.fieldLink RX0 15 "PledgedLoans$Books" "shareDays" "[I", Cond.fieldLink RX0 18 "PledgedLoans$Books" "pledges" "[I", Cond.fieldLink RX0 21 "PledgedLoans$Books" "rest" "[I", Cond.fieldLink RX0 24 "PledgedLoans$Books" "part" "[I", Cond.fieldLink RX0 27 "PledgedLoans$Books" "paid" "[I", Cond.fieldLink RX0 30 "PledgedLoans$Books" "misses" "[I", Cond.fieldLink RX0 33 "PledgedLoans$Books" "settings" "[I", Cond.fieldLink RX0 40 "PledgedLoans$Books" "till" "I", Cond.fieldLink RX0 44 "PledgedLoans$Books" "surplus" "I", Cond.fieldLink RX0 47 "PledgedLoans$Books" "loansGiven" "I", Cond.fieldLink RX0 50 "PledgedLoans$Books" "loansFallenDue" "I"]
def wsL_borrow_r3 : List Cond := [Cond.fieldLink RX0 53 "PledgedLoans$Books" "weeksEnded" "I", Cond.fieldLink RX0 56 "PledgedLoans$Books" "day" "I", Cond.fieldLink RX0 59 "PledgedLoans$Books" "refused" "I", Cond.fieldLink RX0 62 "PledgedLoans$Books" "dividendsPaid" "I", Cond.methodLink RX0 36 yX0_copyRow, Cond.static yX0_copyRow, Cond.code yX0_copyRow cX0_copyRow 2 none, Cond.methodLink RX0 65 Lib.Math.min.name, Cond.static Lib.Math.min.name, Cond.initialized "java/lang/Math", Cond.code Lib.Math.min.name Lib.Math.min.code 2 (some .int), Cond.methodLink RX0 71 arraycopyName, Cond.native arraycopyName, Cond.static arraycopyName, Cond.initialized "java/lang/System", Cond.methodLink RX2 74 yX0_lend, Cond.instanceMethod yX0_lend, Cond.selects RX0 yX0_lend yX0_lend, Cond.code yX0_lend cX0_lend 6 (some .int), Cond.methodLink RX0 114 yX0_whyNoLoan, Cond.instanceMethod yX0_whyNoLoan, Cond.selects RX0 yX0_whyNoLoan yX0_whyNoLoan, Cond.code yX0_whyNoLoan cX0_whyNoLoan 3 (some .int), Cond.methodLink RX0 77 yX0_hasLoan]
def wsL_borrow_r4 : List Cond := [Cond.instanceMethod yX0_hasLoan, Cond.selects RX0 yX0_hasLoan yX0_hasLoan, Cond.code yX0_hasLoan cX0_hasLoan 2 (some .boolean), Cond.methodLink RX0 104 yX0_threefold, Cond.instanceMethod yX0_threefold, Cond.selects RX0 yX0_threefold yX0_threefold, Cond.code yX0_threefold cX0_threefold 2 (some .int), Cond.methodLink RX0 94 yX0_cover, Cond.instanceMethod yX0_cover, Cond.selects RX0 yX0_cover yX0_cover, Cond.code yX0_cover cX0_cover 2 (some .int), Cond.methodLink RX0 85 yX0_ownLeft, Cond.instanceMethod yX0_ownLeft, Cond.selects RX0 yX0_ownLeft yX0_ownLeft, Cond.code yX0_ownLeft cX0_ownLeft 2 (some .int), Cond.methodLink RX0 81 yX0_pledgedBy, Cond.instanceMethod yX0_pledgedBy, Cond.selects RX0 yX0_pledgedBy yX0_pledgedBy, Cond.code yX0_pledgedBy cX0_pledgedBy 5 (some .int), Cond.methodLink RX0 88 yX0_pledgedFor, Cond.instanceMethod yX0_pledgedFor, Cond.selects RX0 yX0_pledgedFor yX0_pledgedFor, Cond.code yX0_pledgedFor cX0_pledgedFor 4 (some .int), Cond.methodLink RX0 107 yX0_whyAbove]
def wsL_borrow_r5 : List Cond := [Cond.instanceMethod yX0_whyAbove, Cond.selects RX0 yX0_whyAbove yX0_whyAbove, Cond.code yX0_whyAbove cX0_whyAbove 4 (some .int), Cond.methodLink RX0 111 yX0_feeOf, Cond.instanceMethod yX0_feeOf, Cond.selects RX0 yX0_feeOf yX0_feeOf, Cond.code yX0_feeOf cX0_feeOf 2 (some .int)]
def wsL_borrow : List Cond := .codeWith yL_borrow cL_borrow 6 (some .int) [(0, 12, 15, 13), (0, 12, 19, 15)] :: ((wsL_borrow_r1 ++ (wsL_borrow_r2 ++ (wsL_borrow_r3 ++ (wsL_borrow_r4 ++ wsL_borrow_r5)))) ++ wsX20 ++ wsX00 ++ (vx_atS RX2 212 "java/lang/IndexOutOfBoundsException" ["java/lang/RuntimeException", "java/lang/Exception"]).filter goodWord ++ (vx_atS RX2 130 "java/lang/IllegalArgumentException" ["java/lang/RuntimeException", "java/lang/Exception"]).filter goodWord)
def wsL_repay_r1 : List Cond := [Cond.classLink RL 13 "java/lang/IndexOutOfBoundsException", Cond.classLink RL 15 "java/lang/IllegalArgumentException", Cond.methodLink RL 30 yX2_repay, Cond.instanceMethod yX2_repay, Cond.selects RX2 yX2_repay yX2_repay, Cond.initialized RX2, Cond.code yX2_repay cX2_repay 3 (some .int), Cond.fieldLink RX2 10 "PledgedLoans" "books" "LPledgedLoans$Books;", Cond.methodLink RX2 42 yX2_checkMember, Cond.static yX2_checkMember, Cond.code yX2_checkMember cX2_checkMember 1 none, Cond.classLink RX2 208 "java/lang/IndexOutOfBoundsException", Cond.initialized "java/lang/IndexOutOfBoundsException", Cond.methodLink RX2 46 yX2_checkAmount, Cond.static yX2_checkAmount, Cond.code yX2_checkAmount cX2_checkAmount 1 none, Cond.methodLink RX2 70 yX2_checkRange, Cond.static yX2_checkRange, Cond.code yX2_checkRange cX2_checkRange 3 none, Cond.classLink RX2 126 "java/lang/IllegalArgumentException", Cond.initialized "java/lang/IllegalArgumentException", Cond.methodLink RX2 49 yX2_saveState, Cond.instanceMethod yX2_saveState, Cond.selects RX2 yX2_saveState yX2_saveState]
def wsL_repay_r2 : List Cond := [Cond.code yX2_saveState cX2_saveState 1 none, Cond.fieldLink RX2 143 "PledgedLoans" "savedStates" "I", Cond.fieldLink RX2 16 "PledgedLoans" "saved" "[LPledgedLoans$Books;", Cond.methodLink RX2 219 yX2_dropOldest, Cond.instanceMethod yX2_dropOldest, Cond.selects RX2 yX2_dropOldest yX2_dropOldest, Cond.code yX2_dropOldest cX2_dropOldest 3 none, Cond.methodLink RX2 134 yX0_copyFrom, Cond.instanceMethod yX0_copyFrom, Cond.selects RX0 yX0_copyFrom yX0_copyFrom, Cond.initialized RX0, Cond.code yX0_copyFrom cX0_copyFrom 2 none, Cond.fieldLink RX0 9 "PledgedLoans$Books" "shares" "[I", Cond.fieldLink RX0 15 "PledgedLoans$Books" "shareDays" "[I", Cond.fieldLink RX0 18 "PledgedLoans$Books" "pledges" "[I", Cond.fieldLink RX0 21 "PledgedLoans$Books" "rest" "[I", Cond.fieldLink RX0 24 "PledgedLoans$Books" "part" "[I", Cond.fieldLink RX0 27 "PledgedLoans$Books" "paid" "[I", Cond.fieldLink RX0 30 "PledgedLoans$Books" "misses" "[I", Cond.fieldLink RX0 33 "PledgedLoans$Books" "settings" "[I", Cond.fieldLink RX0 40 "PledgedLoans$Books" "till" "I", Cond.fieldLink RX0 44 "PledgedLoans$Books" "surplus" "I", Cond.fieldLink RX0 47 "PledgedLoans$Books" "loansGiven" "I", Cond.fieldLink RX0 50 "PledgedLoans$Books" "loansFallenDue" "I"]
def wsL_repay_r3 : List Cond := [Cond.fieldLink RX0 53 "PledgedLoans$Books" "weeksEnded" "I", Cond.fieldLink RX0 56 "PledgedLoans$Books" "day" "I", Cond.fieldLink RX0 59 "PledgedLoans$Books" "refused" "I", Cond.fieldLink RX0 62 "PledgedLoans$Books" "dividendsPaid" "I", Cond.methodLink RX0 36 yX0_copyRow, Cond.static yX0_copyRow, Cond.code yX0_copyRow cX0_copyRow 2 none, Cond.methodLink RX0 65 Lib.Math.min.name, Cond.static Lib.Math.min.name, Cond.initialized "java/lang/Math", Cond.code Lib.Math.min.name Lib.Math.min.code 2 (some .int), Cond.methodLink RX0 71 arraycopyName, Cond.native arraycopyName, Cond.static arraycopyName, Cond.initialized "java/lang/System", Cond.methodLink RX2 77 yX0_takeBack, Cond.instanceMethod yX0_takeBack, Cond.selects RX0 yX0_takeBack yX0_takeBack, Cond.code yX0_takeBack cX0_takeBack 3 (some .int)]
def wsL_repay : List Cond := .codeWith yL_repay cL_repay 5 (some .int) [(0, 10, 13, 13), (0, 10, 17, 15)] :: ((wsL_repay_r1 ++ (wsL_repay_r2 ++ wsL_repay_r3)) ++ wsX20 ++ wsX00 ++ (vx_atS RX2 212 "java/lang/IndexOutOfBoundsException" ["java/lang/RuntimeException", "java/lang/Exception"]).filter goodWord ++ (vx_atS RX2 130 "java/lang/IllegalArgumentException" ["java/lang/RuntimeException", "java/lang/Exception"]).filter goodWord)
def wsL_week_r1 : List Cond := [Cond.classLink RL 37 "java/lang/IllegalStateException", Cond.methodLink RL 33 yX2_week, Cond.instanceMethod yX2_week, Cond.selects RX2 yX2_week yX2_week, Cond.initialized RX2, Cond.code yX2_week cX2_week 1 (some .int), Cond.classLink RX2 84 "java/lang/IllegalStateException", Cond.initialized "java/lang/IllegalStateException", Cond.fieldLink RX2 10 "PledgedLoans" "books" "LPledgedLoans$Books;", Cond.methodLink RX2 80 yX0_canEndWeek, Cond.instanceMethod yX0_canEndWeek, Cond.selects RX0 yX0_canEndWeek yX0_canEndWeek, Cond.initialized RX0, Cond.code yX0_canEndWeek cX0_canEndWeek 1 (some .boolean), Cond.fieldLink RX0 53 "PledgedLoans$Books" "weeksEnded" "I", Cond.methodLink RX2 49 yX2_saveState, Cond.instanceMethod yX2_saveState, Cond.selects RX2 yX2_saveState yX2_saveState, Cond.code yX2_saveState cX2_saveState 1 none, Cond.fieldLink RX2 143 "PledgedLoans" "savedStates" "I", Cond.fieldLink RX2 16 "PledgedLoans" "saved" "[LPledgedLoans$Books;", Cond.methodLink RX2 219 yX2_dropOldest, Cond.instanceMethod yX2_dropOldest, Cond.selects RX2 yX2_dropOldest yX2_dropOldest]
def wsL_week_r2 : List Cond := [Cond.code yX2_dropOldest cX2_dropOldest 3 none, Cond.methodLink RX2 134 yX0_copyFrom, Cond.instanceMethod yX0_copyFrom, Cond.selects RX0 yX0_copyFrom yX0_copyFrom, Cond.code yX0_copyFrom cX0_copyFrom 2 none, Cond.fieldLink RX0 9 "PledgedLoans$Books" "shares" "[I", Cond.fieldLink RX0 15 "PledgedLoans$Books" "shareDays" "[I", Cond.fieldLink RX0 18 "PledgedLoans$Books" "pledges" "[I", Cond.fieldLink RX0 21 "PledgedLoans$Books" "rest" "[I", Cond.fieldLink RX0 24 "PledgedLoans$Books" "part" "[I", Cond.fieldLink RX0 27 "PledgedLoans$Books" "paid" "[I", Cond.fieldLink RX0 30 "PledgedLoans$Books" "misses" "[I", Cond.fieldLink RX0 33 "PledgedLoans$Books" "settings" "[I", Cond.fieldLink RX0 40 "PledgedLoans$Books" "till" "I", Cond.fieldLink RX0 44 "PledgedLoans$Books" "surplus" "I", Cond.fieldLink RX0 47 "PledgedLoans$Books" "loansGiven" "I", Cond.fieldLink RX0 50 "PledgedLoans$Books" "loansFallenDue" "I", Cond.fieldLink RX0 56 "PledgedLoans$Books" "day" "I", Cond.fieldLink RX0 59 "PledgedLoans$Books" "refused" "I", Cond.fieldLink RX0 62 "PledgedLoans$Books" "dividendsPaid" "I", Cond.methodLink RX0 36 yX0_copyRow, Cond.static yX0_copyRow, Cond.code yX0_copyRow cX0_copyRow 2 none, Cond.methodLink RX0 65 Lib.Math.min.name]
def wsL_week_r3 : List Cond := [Cond.static Lib.Math.min.name, Cond.initialized "java/lang/Math", Cond.code Lib.Math.min.name Lib.Math.min.code 2 (some .int), Cond.methodLink RX0 71 arraycopyName, Cond.native arraycopyName, Cond.static arraycopyName, Cond.initialized "java/lang/System", Cond.methodLink RX2 91 yX0_endWeek, Cond.instanceMethod yX0_endWeek, Cond.selects RX0 yX0_endWeek yX0_endWeek, Cond.code yX0_endWeek cX0_endWeek 3 (some .int), Cond.methodLink RX0 77 yX0_hasLoan, Cond.instanceMethod yX0_hasLoan, Cond.selects RX0 yX0_hasLoan yX0_hasLoan, Cond.code yX0_hasLoan cX0_hasLoan 2 (some .boolean), Cond.methodLink RX0 124 yX0_endWeekOf, Cond.instanceMethod yX0_endWeekOf, Cond.selects RX0 yX0_endWeekOf yX0_endWeekOf, Cond.code yX0_endWeekOf cX0_endWeekOf 2 (some .boolean), Cond.methodLink RX0 127 yX0_takeDue, Cond.instanceMethod yX0_takeDue, Cond.selects RX0 yX0_takeDue yX0_takeDue, Cond.code yX0_takeDue cX0_takeDue 7 none, Cond.methodLink RX0 85 yX0_ownLeft]
def wsL_week_r4 : List Cond := [Cond.instanceMethod yX0_ownLeft, Cond.selects RX0 yX0_ownLeft yX0_ownLeft, Cond.code yX0_ownLeft cX0_ownLeft 2 (some .int), Cond.methodLink RX0 81 yX0_pledgedBy, Cond.instanceMethod yX0_pledgedBy, Cond.selects RX0 yX0_pledgedBy yX0_pledgedBy, Cond.code yX0_pledgedBy cX0_pledgedBy 5 (some .int), Cond.methodLink RX0 101 yX0_place, Cond.static yX0_place, Cond.code yX0_place cX0_place 2 (some .int)]
def wsL_week : List Cond := .codeWith yL_week cL_week 3 (some .int) [(0, 8, 11, 37)] :: ((wsL_week_r1 ++ (wsL_week_r2 ++ (wsL_week_r3 ++ wsL_week_r4))) ++ wsX20 ++ wsX00 ++ (vx_atS RX2 88 "java/lang/IllegalStateException" ["java/lang/RuntimeException", "java/lang/Exception"]).filter goodWord)
def wsL_pass_r1 : List Cond := [Cond.classLink RL 15 "java/lang/IllegalArgumentException", Cond.classLink RL 37 "java/lang/IllegalStateException", Cond.methodLink RL 39 yX2_pass, Cond.instanceMethod yX2_pass, Cond.selects RX2 yX2_pass yX2_pass, Cond.initialized RX2, Cond.code yX2_pass cX2_pass 2 (some .int), Cond.classLink RX2 84 "java/lang/IllegalStateException", Cond.initialized "java/lang/IllegalStateException", Cond.fieldLink RX2 10 "PledgedLoans" "books" "LPledgedLoans$Books;", Cond.methodLink RX2 70 yX2_checkRange, Cond.static yX2_checkRange, Cond.code yX2_checkRange cX2_checkRange 3 none, Cond.classLink RX2 126 "java/lang/IllegalArgumentException", Cond.initialized "java/lang/IllegalArgumentException", Cond.methodLink RX2 95 yX0_canAddDays, Cond.instanceMethod yX0_canAddDays, Cond.selects RX0 yX0_canAddDays yX0_canAddDays, Cond.initialized RX0, Cond.code yX0_canAddDays cX0_canAddDays 3 (some .boolean), Cond.fieldLink RX0 56 "PledgedLoans$Books" "day" "I", Cond.fieldLink RX0 15 "PledgedLoans$Books" "shareDays" "[I", Cond.fieldLink RX0 9 "PledgedLoans$Books" "shares" "[I", Cond.constantLong RX0 131 (100000000)]
def wsL_pass_r2 : List Cond := [Cond.methodLink RX2 49 yX2_saveState, Cond.instanceMethod yX2_saveState, Cond.selects RX2 yX2_saveState yX2_saveState, Cond.code yX2_saveState cX2_saveState 1 none, Cond.fieldLink RX2 143 "PledgedLoans" "savedStates" "I", Cond.fieldLink RX2 16 "PledgedLoans" "saved" "[LPledgedLoans$Books;", Cond.methodLink RX2 219 yX2_dropOldest, Cond.instanceMethod yX2_dropOldest, Cond.selects RX2 yX2_dropOldest yX2_dropOldest, Cond.code yX2_dropOldest cX2_dropOldest 3 none, Cond.methodLink RX2 134 yX0_copyFrom, Cond.instanceMethod yX0_copyFrom, Cond.selects RX0 yX0_copyFrom yX0_copyFrom, Cond.code yX0_copyFrom cX0_copyFrom 2 none, Cond.fieldLink RX0 18 "PledgedLoans$Books" "pledges" "[I", Cond.fieldLink RX0 21 "PledgedLoans$Books" "rest" "[I", Cond.fieldLink RX0 24 "PledgedLoans$Books" "part" "[I", Cond.fieldLink RX0 27 "PledgedLoans$Books" "paid" "[I", Cond.fieldLink RX0 30 "PledgedLoans$Books" "misses" "[I", Cond.fieldLink RX0 33 "PledgedLoans$Books" "settings" "[I", Cond.fieldLink RX0 40 "PledgedLoans$Books" "till" "I", Cond.fieldLink RX0 44 "PledgedLoans$Books" "surplus" "I", Cond.fieldLink RX0 47 "PledgedLoans$Books" "loansGiven" "I", Cond.fieldLink RX0 50 "PledgedLoans$Books" "loansFallenDue" "I"]
def wsL_pass_r3 : List Cond := [Cond.fieldLink RX0 53 "PledgedLoans$Books" "weeksEnded" "I", Cond.fieldLink RX0 59 "PledgedLoans$Books" "refused" "I", Cond.fieldLink RX0 62 "PledgedLoans$Books" "dividendsPaid" "I", Cond.methodLink RX0 36 yX0_copyRow, Cond.static yX0_copyRow, Cond.code yX0_copyRow cX0_copyRow 2 none, Cond.methodLink RX0 65 Lib.Math.min.name, Cond.static Lib.Math.min.name, Cond.initialized "java/lang/Math", Cond.code Lib.Math.min.name Lib.Math.min.code 2 (some .int), Cond.methodLink RX0 71 arraycopyName, Cond.native arraycopyName, Cond.static arraycopyName, Cond.initialized "java/lang/System", Cond.methodLink RX2 101 yX0_addDays, Cond.instanceMethod yX0_addDays, Cond.selects RX0 yX0_addDays yX0_addDays, Cond.code yX0_addDays cX0_addDays 3 (some .int)]
def wsL_pass : List Cond := .codeWith yL_pass cL_pass 4 (some .int) [(0, 9, 12, 15), (0, 9, 15, 37)] :: ((wsL_pass_r1 ++ (wsL_pass_r2 ++ wsL_pass_r3)) ++ wsX20 ++ wsX00 ++ (vx_atS RX2 88 "java/lang/IllegalStateException" ["java/lang/RuntimeException", "java/lang/Exception"]).filter goodWord ++ (vx_atS RX2 130 "java/lang/IllegalArgumentException" ["java/lang/RuntimeException", "java/lang/Exception"]).filter goodWord)
def wsL_set_r1 : List Cond := [Cond.classLink RL 13 "java/lang/IndexOutOfBoundsException", Cond.classLink RL 15 "java/lang/IllegalArgumentException", Cond.methodLink RL 43 yX2_set, Cond.instanceMethod yX2_set, Cond.selects RX2 yX2_set yX2_set, Cond.initialized RX2, Cond.code yX2_set cX2_set 4 (some .int), Cond.fieldLink RX2 10 "PledgedLoans" "books" "LPledgedLoans$Books;", Cond.fieldLink RX2 111 "PledgedLoans$Books" "settings" "[I", Cond.methodLink RX2 108 yX2_checkSetting, Cond.static yX2_checkSetting, Cond.code yX2_checkSetting cX2_checkSetting 1 none, Cond.classLink RX2 208 "java/lang/IndexOutOfBoundsException", Cond.initialized "java/lang/IndexOutOfBoundsException", Cond.methodLink RX2 70 yX2_checkRange, Cond.static yX2_checkRange, Cond.code yX2_checkRange cX2_checkRange 3 none, Cond.classLink RX2 126 "java/lang/IllegalArgumentException", Cond.initialized "java/lang/IllegalArgumentException", Cond.methodLink RX2 49 yX2_saveState, Cond.instanceMethod yX2_saveState, Cond.selects RX2 yX2_saveState yX2_saveState, Cond.code yX2_saveState cX2_saveState 1 none, Cond.fieldLink RX2 143 "PledgedLoans" "savedStates" "I"]
def wsL_set_r2 : List Cond := [Cond.fieldLink RX2 16 "PledgedLoans" "saved" "[LPledgedLoans$Books;", Cond.methodLink RX2 219 yX2_dropOldest, Cond.instanceMethod yX2_dropOldest, Cond.selects RX2 yX2_dropOldest yX2_dropOldest, Cond.code yX2_dropOldest cX2_dropOldest 3 none, Cond.methodLink RX2 134 yX0_copyFrom, Cond.instanceMethod yX0_copyFrom, Cond.selects RX0 yX0_copyFrom yX0_copyFrom, Cond.initialized RX0, Cond.code yX0_copyFrom cX0_copyFrom 2 none, Cond.fieldLink RX0 9 "PledgedLoans$Books" "shares" "[I", Cond.fieldLink RX0 15 "PledgedLoans$Books" "shareDays" "[I", Cond.fieldLink RX0 18 "PledgedLoans$Books" "pledges" "[I", Cond.fieldLink RX0 21 "PledgedLoans$Books" "rest" "[I", Cond.fieldLink RX0 24 "PledgedLoans$Books" "part" "[I", Cond.fieldLink RX0 27 "PledgedLoans$Books" "paid" "[I", Cond.fieldLink RX0 30 "PledgedLoans$Books" "misses" "[I", Cond.fieldLink RX0 33 "PledgedLoans$Books" "settings" "[I", Cond.fieldLink RX0 40 "PledgedLoans$Books" "till" "I", Cond.fieldLink RX0 44 "PledgedLoans$Books" "surplus" "I", Cond.fieldLink RX0 47 "PledgedLoans$Books" "loansGiven" "I", Cond.fieldLink RX0 50 "PledgedLoans$Books" "loansFallenDue" "I", Cond.fieldLink RX0 53 "PledgedLoans$Books" "weeksEnded" "I", Cond.fieldLink RX0 56 "PledgedLoans$Books" "day" "I"]
def wsL_set_r3 : List Cond := [Cond.fieldLink RX0 59 "PledgedLoans$Books" "refused" "I", Cond.fieldLink RX0 62 "PledgedLoans$Books" "dividendsPaid" "I", Cond.methodLink RX0 36 yX0_copyRow, Cond.static yX0_copyRow, Cond.code yX0_copyRow cX0_copyRow 2 none, Cond.methodLink RX0 65 Lib.Math.min.name, Cond.static Lib.Math.min.name, Cond.initialized "java/lang/Math", Cond.code Lib.Math.min.name Lib.Math.min.code 2 (some .int), Cond.methodLink RX0 71 arraycopyName, Cond.native arraycopyName, Cond.static arraycopyName, Cond.initialized "java/lang/System"]
def wsL_set : List Cond := .codeWith yL_set cL_set 5 (some .int) [(0, 10, 13, 13), (0, 10, 17, 15)] :: ((wsL_set_r1 ++ (wsL_set_r2 ++ wsL_set_r3)) ++ wsX20 ++ wsX00 ++ (vx_atS RX2 212 "java/lang/IndexOutOfBoundsException" ["java/lang/RuntimeException", "java/lang/Exception"]).filter goodWord ++ (vx_atS RX2 130 "java/lang/IllegalArgumentException" ["java/lang/RuntimeException", "java/lang/Exception"]).filter goodWord)
def wsL_append : List Cond := .codeWith yL_append cL_append 4 (some .int) [(0, 9, 12, 15), (0, 9, 15, 37)] :: ([.classLink RL 15 "java/lang/IllegalArgumentException", .classLink RL 37 "java/lang/IllegalStateException", .methodLink RL 46 yX2_append, .instanceMethod yX2_append, .selects RX2 yX2_append yX2_append, .initialized RX2, .code yX2_append cX2_append 2 (some .int), .classLink RX2 84 "java/lang/IllegalStateException", .initialized "java/lang/IllegalStateException", .fieldLink RX2 114 "PledgedLoans" "bufferLength" "I", .fieldLink RX2 27 "PledgedLoans" "buffer" "[C", .methodLink RX2 70 yX2_checkRange, .static yX2_checkRange, .code yX2_checkRange cX2_checkRange 3 none, .classLink RX2 126 "java/lang/IllegalArgumentException", .initialized "java/lang/IllegalArgumentException"] ++ wsX20 ++ (vx_atS RX2 88 "java/lang/IllegalStateException" ["java/lang/RuntimeException", "java/lang/Exception"]).filter goodWord ++ (vx_atS RX2 130 "java/lang/IllegalArgumentException" ["java/lang/RuntimeException", "java/lang/Exception"]).filter goodWord)
def wsL_run_r1 : List Cond := [Cond.classLink RL 15 "java/lang/IllegalArgumentException", Cond.methodLink RL 49 yX2_run, Cond.instanceMethod yX2_run, Cond.selects RX2 yX2_run yX2_run, Cond.initialized RX2, Cond.code yX2_run cX2_run 2 (some .int), Cond.classLink RX2 126 "java/lang/IllegalArgumentException", Cond.initialized "java/lang/IllegalArgumentException", Cond.fieldLink RX2 114 "PledgedLoans" "bufferLength" "I", Cond.fieldLink RX2 34 "PledgedLoans" "reader" "LPledgedLoans$OrderReader;", Cond.methodLink RX2 120 yX2_readToError, Cond.instanceMethod yX2_readToError, Cond.selects RX2 yX2_readToError yX2_readToError, Cond.code yX2_readToError cX2_readToError 2 (some .int), Cond.fieldLink RX2 27 "PledgedLoans" "buffer" "[C", Cond.methodLink RX2 222 yX1_restart, Cond.instanceMethod yX1_restart, Cond.selects RX1 yX1_restart yX1_restart, Cond.initialized RX1, Cond.code yX1_restart cX1_restart 1 none, Cond.fieldLink RX1 11 "PledgedLoans$OrderReader" "stage" "I", Cond.fieldLink RX1 15 "PledgedLoans$OrderReader" "kind" "C", Cond.fieldLink RX1 19 "PledgedLoans$OrderReader" "amount" "I", Cond.fieldLink RX1 22 "PledgedLoans$OrderReader" "weeks" "I"]
def wsL_run_r2 : List Cond := [Cond.methodLink RX2 225 yX1_take, Cond.instanceMethod yX1_take, Cond.selects RX1 yX1_take yX1_take, Cond.code yX1_take cX1_take 2 (some .boolean), Cond.methodLink RX1 25 yX1_takeEnd, Cond.instanceMethod yX1_takeEnd, Cond.selects RX1 yX1_takeEnd yX1_takeEnd, Cond.code yX1_takeEnd cX1_takeEnd 1 (some .boolean), Cond.methodLink RX1 49 yX1_isWhole, Cond.instanceMethod yX1_isWhole, Cond.selects RX1 yX1_isWhole yX1_isWhole, Cond.code yX1_isWhole cX1_isWhole 1 (some .boolean), Cond.methodLink RX1 52 yX1_restart, Cond.methodLink RX1 29 yX1_takeKind, Cond.instanceMethod yX1_takeKind, Cond.selects RX1 yX1_takeKind yX1_takeKind, Cond.code yX1_takeKind cX1_takeKind 2 (some .boolean), Cond.methodLink RX1 33 yX1_takeMember, Cond.instanceMethod yX1_takeMember, Cond.selects RX1 yX1_takeMember yX1_takeMember, Cond.code yX1_takeMember cX1_takeMember 2 (some .boolean), Cond.fieldLink RX1 58 "PledgedLoans$OrderReader" "member" "I", Cond.methodLink RX1 55 yX1_isMember, Cond.static yX1_isMember]
def wsL_run_r3 : List Cond := [Cond.code yX1_isMember cX1_isMember 1 (some .boolean), Cond.methodLink RX1 36 yX1_takeMark, Cond.instanceMethod yX1_takeMark, Cond.selects RX1 yX1_takeMark yX1_takeMark, Cond.code yX1_takeMark cX1_takeMark 4 (some .boolean), Cond.methodLink RX1 40 yX1_takeBorrower, Cond.instanceMethod yX1_takeBorrower, Cond.selects RX1 yX1_takeBorrower yX1_takeBorrower, Cond.code yX1_takeBorrower cX1_takeBorrower 2 (some .boolean), Cond.fieldLink RX1 61 "PledgedLoans$OrderReader" "borrower" "I", Cond.methodLink RX1 43 yX1_takeAmount, Cond.instanceMethod yX1_takeAmount, Cond.selects RX1 yX1_takeAmount yX1_takeAmount, Cond.code yX1_takeAmount cX1_takeAmount 3 (some .boolean), Cond.methodLink RX1 64 yX1_longer, Cond.static yX1_longer, Cond.code yX1_longer cX1_longer 4 (some .int), Cond.methodLink RX1 46 yX1_takeWeeks, Cond.instanceMethod yX1_takeWeeks, Cond.selects RX1 yX1_takeWeeks yX1_takeWeeks, Cond.code yX1_takeWeeks cX1_takeWeeks 3 (some .boolean), Cond.methodLink RX2 123 yX1_isWhole, Cond.methodLink RX2 49 yX2_saveState, Cond.instanceMethod yX2_saveState]
def wsL_run_r4 : List Cond := [Cond.selects RX2 yX2_saveState yX2_saveState, Cond.code yX2_saveState cX2_saveState 1 none, Cond.fieldLink RX2 143 "PledgedLoans" "savedStates" "I", Cond.fieldLink RX2 16 "PledgedLoans" "saved" "[LPledgedLoans$Books;", Cond.fieldLink RX2 10 "PledgedLoans" "books" "LPledgedLoans$Books;", Cond.methodLink RX2 219 yX2_dropOldest, Cond.instanceMethod yX2_dropOldest, Cond.selects RX2 yX2_dropOldest yX2_dropOldest, Cond.code yX2_dropOldest cX2_dropOldest 3 none, Cond.methodLink RX2 134 yX0_copyFrom, Cond.instanceMethod yX0_copyFrom, Cond.selects RX0 yX0_copyFrom yX0_copyFrom, Cond.initialized RX0, Cond.code yX0_copyFrom cX0_copyFrom 2 none, Cond.fieldLink RX0 9 "PledgedLoans$Books" "shares" "[I", Cond.fieldLink RX0 15 "PledgedLoans$Books" "shareDays" "[I", Cond.fieldLink RX0 18 "PledgedLoans$Books" "pledges" "[I", Cond.fieldLink RX0 21 "PledgedLoans$Books" "rest" "[I", Cond.fieldLink RX0 24 "PledgedLoans$Books" "part" "[I", Cond.fieldLink RX0 27 "PledgedLoans$Books" "paid" "[I", Cond.fieldLink RX0 30 "PledgedLoans$Books" "misses" "[I", Cond.fieldLink RX0 33 "PledgedLoans$Books" "settings" "[I", Cond.fieldLink RX0 40 "PledgedLoans$Books" "till" "I", Cond.fieldLink RX0 44 "PledgedLoans$Books" "surplus" "I"]
def wsL_run_r5 : List Cond := [Cond.fieldLink RX0 47 "PledgedLoans$Books" "loansGiven" "I", Cond.fieldLink RX0 50 "PledgedLoans$Books" "loansFallenDue" "I", Cond.fieldLink RX0 53 "PledgedLoans$Books" "weeksEnded" "I", Cond.fieldLink RX0 56 "PledgedLoans$Books" "day" "I", Cond.fieldLink RX0 59 "PledgedLoans$Books" "refused" "I", Cond.fieldLink RX0 62 "PledgedLoans$Books" "dividendsPaid" "I", Cond.methodLink RX0 36 yX0_copyRow, Cond.static yX0_copyRow, Cond.code yX0_copyRow cX0_copyRow 2 none, Cond.methodLink RX0 65 Lib.Math.min.name, Cond.static Lib.Math.min.name, Cond.initialized "java/lang/Math", Cond.code Lib.Math.min.name Lib.Math.min.code 2 (some .int), Cond.methodLink RX0 71 arraycopyName, Cond.native arraycopyName, Cond.static arraycopyName, Cond.initialized "java/lang/System", Cond.methodLink RX2 131 yX2_doOrders, Cond.instanceMethod yX2_doOrders, Cond.selects RX2 yX2_doOrders yX2_doOrders, Cond.code yX2_doOrders cX2_doOrders 3 (some .int), Cond.methodLink RX2 229 yX2_doOrder, Cond.instanceMethod yX2_doOrder, Cond.selects RX2 yX2_doOrder yX2_doOrder]
def wsL_run_r6 : List Cond := [Cond.code yX2_doOrder cX2_doOrder 1 (some .boolean), Cond.fieldLink RX2 232 "PledgedLoans$OrderReader" "kind" "C", Cond.fieldLink RX2 236 "PledgedLoans$OrderReader" "member" "I", Cond.fieldLink RX2 239 "PledgedLoans$OrderReader" "amount" "I", Cond.fieldLink RX2 242 "PledgedLoans$OrderReader" "borrower" "I", Cond.fieldLink RX2 245 "PledgedLoans$OrderReader" "weeks" "I", Cond.methodLink RX2 52 yX0_takeIn, Cond.instanceMethod yX0_takeIn, Cond.selects RX0 yX0_takeIn yX0_takeIn, Cond.code yX0_takeIn cX0_takeIn 4 (some .int), Cond.constant RX0 100 (90000), Cond.methodLink RX2 56 yX0_giveOut, Cond.instanceMethod yX0_giveOut, Cond.selects RX0 yX0_giveOut yX0_giveOut, Cond.code yX0_giveOut cX0_giveOut 3 (some .int), Cond.methodLink RX0 97 yX0_freeShares, Cond.instanceMethod yX0_freeShares, Cond.selects RX0 yX0_freeShares yX0_freeShares, Cond.code yX0_freeShares cX0_freeShares 2 (some .int), Cond.methodLink RX0 91 Lib.Math.max.name, Cond.static Lib.Math.max.name, Cond.code Lib.Math.max.name Lib.Math.max.code 2 (some .int), Cond.methodLink RX0 85 yX0_ownLeft, Cond.instanceMethod yX0_ownLeft]
def wsL_run_r7 : List Cond := [Cond.selects RX0 yX0_ownLeft yX0_ownLeft, Cond.code yX0_ownLeft cX0_ownLeft 2 (some .int), Cond.methodLink RX0 81 yX0_pledgedBy, Cond.instanceMethod yX0_pledgedBy, Cond.selects RX0 yX0_pledgedBy yX0_pledgedBy, Cond.code yX0_pledgedBy cX0_pledgedBy 5 (some .int), Cond.methodLink RX0 88 yX0_pledgedFor, Cond.instanceMethod yX0_pledgedFor, Cond.selects RX0 yX0_pledgedFor yX0_pledgedFor, Cond.code yX0_pledgedFor cX0_pledgedFor 4 (some .int), Cond.methodLink RX2 63 yX0_addPledge, Cond.instanceMethod yX0_addPledge, Cond.selects RX0 yX0_addPledge yX0_addPledge, Cond.code yX0_addPledge cX0_addPledge 5 (some .int), Cond.methodLink RX0 101 yX0_place, Cond.static yX0_place, Cond.code yX0_place cX0_place 2 (some .int), Cond.methodLink RX2 74 yX0_lend, Cond.instanceMethod yX0_lend, Cond.selects RX0 yX0_lend yX0_lend, Cond.code yX0_lend cX0_lend 6 (some .int), Cond.methodLink RX0 114 yX0_whyNoLoan, Cond.instanceMethod yX0_whyNoLoan, Cond.selects RX0 yX0_whyNoLoan yX0_whyNoLoan]
def wsL_run_r8 : List Cond := [Cond.code yX0_whyNoLoan cX0_whyNoLoan 3 (some .int), Cond.methodLink RX0 77 yX0_hasLoan, Cond.instanceMethod yX0_hasLoan, Cond.selects RX0 yX0_hasLoan yX0_hasLoan, Cond.code yX0_hasLoan cX0_hasLoan 2 (some .boolean), Cond.methodLink RX0 104 yX0_threefold, Cond.instanceMethod yX0_threefold, Cond.selects RX0 yX0_threefold yX0_threefold, Cond.code yX0_threefold cX0_threefold 2 (some .int), Cond.methodLink RX0 94 yX0_cover, Cond.instanceMethod yX0_cover, Cond.selects RX0 yX0_cover yX0_cover, Cond.code yX0_cover cX0_cover 2 (some .int), Cond.methodLink RX0 107 yX0_whyAbove, Cond.instanceMethod yX0_whyAbove, Cond.selects RX0 yX0_whyAbove yX0_whyAbove, Cond.code yX0_whyAbove cX0_whyAbove 4 (some .int), Cond.methodLink RX0 111 yX0_feeOf, Cond.instanceMethod yX0_feeOf, Cond.selects RX0 yX0_feeOf yX0_feeOf, Cond.code yX0_feeOf cX0_feeOf 2 (some .int), Cond.methodLink RX2 77 yX0_takeBack, Cond.instanceMethod yX0_takeBack, Cond.selects RX0 yX0_takeBack yX0_takeBack]
def wsL_run_r9 : List Cond := [Cond.code yX0_takeBack cX0_takeBack 3 (some .int), Cond.methodLink RX2 80 yX0_canEndWeek, Cond.instanceMethod yX0_canEndWeek, Cond.selects RX0 yX0_canEndWeek yX0_canEndWeek, Cond.code yX0_canEndWeek cX0_canEndWeek 1 (some .boolean), Cond.methodLink RX2 91 yX0_endWeek, Cond.instanceMethod yX0_endWeek, Cond.selects RX0 yX0_endWeek yX0_endWeek, Cond.code yX0_endWeek cX0_endWeek 3 (some .int), Cond.methodLink RX0 124 yX0_endWeekOf, Cond.instanceMethod yX0_endWeekOf, Cond.selects RX0 yX0_endWeekOf yX0_endWeekOf, Cond.code yX0_endWeekOf cX0_endWeekOf 2 (some .boolean), Cond.methodLink RX0 127 yX0_takeDue, Cond.instanceMethod yX0_takeDue, Cond.selects RX0 yX0_takeDue yX0_takeDue, Cond.code yX0_takeDue cX0_takeDue 7 none]
def wsL_run : List Cond := .codeWith yL_run cL_run 3 (some .int) [(0, 8, 11, 15)] :: ((wsL_run_r1 ++ (wsL_run_r2 ++ (wsL_run_r3 ++ (wsL_run_r4 ++ (wsL_run_r5 ++ (wsL_run_r6 ++ (wsL_run_r7 ++ (wsL_run_r8 ++ wsL_run_r9)))))))) ++ wsX20 ++ wsX10 ++ wsX00 ++ (vx_atS RX2 130 "java/lang/IllegalArgumentException" ["java/lang/RuntimeException", "java/lang/Exception"]).filter goodWord)
def wsL_keep_r1 : List Cond := [Cond.classLink RL 15 "java/lang/IllegalArgumentException", Cond.methodLink RL 52 yX2_keep, Cond.instanceMethod yX2_keep, Cond.selects RX2 yX2_keep yX2_keep, Cond.initialized RX2, Cond.code yX2_keep cX2_keep 2 (some .int), Cond.fieldLink RX2 20 "PledgedLoans" "slots" "[LPledgedLoans$Books;", Cond.fieldLink RX2 10 "PledgedLoans" "books" "LPledgedLoans$Books;", Cond.fieldLink RX2 23 "PledgedLoans" "slotFilled" "[Z", Cond.methodLink RX2 70 yX2_checkRange, Cond.static yX2_checkRange, Cond.code yX2_checkRange cX2_checkRange 3 none, Cond.classLink RX2 126 "java/lang/IllegalArgumentException", Cond.initialized "java/lang/IllegalArgumentException", Cond.methodLink RX2 134 yX0_copyFrom, Cond.instanceMethod yX0_copyFrom, Cond.selects RX0 yX0_copyFrom yX0_copyFrom, Cond.initialized RX0, Cond.code yX0_copyFrom cX0_copyFrom 2 none, Cond.fieldLink RX0 9 "PledgedLoans$Books" "shares" "[I", Cond.fieldLink RX0 15 "PledgedLoans$Books" "shareDays" "[I", Cond.fieldLink RX0 18 "PledgedLoans$Books" "pledges" "[I", Cond.fieldLink RX0 21 "PledgedLoans$Books" "rest" "[I", Cond.fieldLink RX0 24 "PledgedLoans$Books" "part" "[I"]
def wsL_keep_r2 : List Cond := [Cond.fieldLink RX0 27 "PledgedLoans$Books" "paid" "[I", Cond.fieldLink RX0 30 "PledgedLoans$Books" "misses" "[I", Cond.fieldLink RX0 33 "PledgedLoans$Books" "settings" "[I", Cond.fieldLink RX0 40 "PledgedLoans$Books" "till" "I", Cond.fieldLink RX0 44 "PledgedLoans$Books" "surplus" "I", Cond.fieldLink RX0 47 "PledgedLoans$Books" "loansGiven" "I", Cond.fieldLink RX0 50 "PledgedLoans$Books" "loansFallenDue" "I", Cond.fieldLink RX0 53 "PledgedLoans$Books" "weeksEnded" "I", Cond.fieldLink RX0 56 "PledgedLoans$Books" "day" "I", Cond.fieldLink RX0 59 "PledgedLoans$Books" "refused" "I", Cond.fieldLink RX0 62 "PledgedLoans$Books" "dividendsPaid" "I", Cond.methodLink RX0 36 yX0_copyRow, Cond.static yX0_copyRow, Cond.code yX0_copyRow cX0_copyRow 2 none, Cond.methodLink RX0 65 Lib.Math.min.name, Cond.static Lib.Math.min.name, Cond.initialized "java/lang/Math", Cond.code Lib.Math.min.name Lib.Math.min.code 2 (some .int), Cond.methodLink RX0 71 arraycopyName, Cond.native arraycopyName, Cond.static arraycopyName, Cond.initialized "java/lang/System", Cond.methodLink RX2 138 yX0_loans, Cond.instanceMethod yX0_loans]
def wsL_keep_r3 : List Cond := [Cond.selects RX0 yX0_loans yX0_loans, Cond.code yX0_loans cX0_loans 3 (some .int), Cond.methodLink RX0 77 yX0_hasLoan, Cond.instanceMethod yX0_hasLoan, Cond.selects RX0 yX0_hasLoan yX0_hasLoan, Cond.code yX0_hasLoan cX0_hasLoan 2 (some .boolean)]
def wsL_keep : List Cond := .codeWith yL_keep cL_keep 4 (some .int) [(0, 9, 12, 15)] :: ((wsL_keep_r1 ++ (wsL_keep_r2 ++ wsL_keep_r3)) ++ wsX20 ++ wsX00 ++ (vx_atS RX2 130 "java/lang/IllegalArgumentException" ["java/lang/RuntimeException", "java/lang/Exception"]).filter goodWord)
def wsL_goBack_r1 : List Cond := [Cond.classLink RL 15 "java/lang/IllegalArgumentException", Cond.classLink RL 37 "java/lang/IllegalStateException", Cond.methodLink RL 55 yX2_goBack, Cond.instanceMethod yX2_goBack, Cond.selects RX2 yX2_goBack yX2_goBack, Cond.initialized RX2, Cond.code yX2_goBack cX2_goBack 2 (some .int), Cond.classLink RX2 84 "java/lang/IllegalStateException", Cond.initialized "java/lang/IllegalStateException", Cond.fieldLink RX2 23 "PledgedLoans" "slotFilled" "[Z", Cond.fieldLink RX2 10 "PledgedLoans" "books" "LPledgedLoans$Books;", Cond.fieldLink RX2 20 "PledgedLoans" "slots" "[LPledgedLoans$Books;", Cond.methodLink RX2 70 yX2_checkRange, Cond.static yX2_checkRange, Cond.code yX2_checkRange cX2_checkRange 3 none, Cond.classLink RX2 126 "java/lang/IllegalArgumentException", Cond.initialized "java/lang/IllegalArgumentException", Cond.methodLink RX2 49 yX2_saveState, Cond.instanceMethod yX2_saveState, Cond.selects RX2 yX2_saveState yX2_saveState, Cond.code yX2_saveState cX2_saveState 1 none, Cond.fieldLink RX2 143 "PledgedLoans" "savedStates" "I", Cond.fieldLink RX2 16 "PledgedLoans" "saved" "[LPledgedLoans$Books;", Cond.methodLink RX2 219 yX2_dropOldest]
def wsL_goBack_r2 : List Cond := [Cond.instanceMethod yX2_dropOldest, Cond.selects RX2 yX2_dropOldest yX2_dropOldest, Cond.code yX2_dropOldest cX2_dropOldest 3 none, Cond.methodLink RX2 134 yX0_copyFrom, Cond.instanceMethod yX0_copyFrom, Cond.selects RX0 yX0_copyFrom yX0_copyFrom, Cond.initialized RX0, Cond.code yX0_copyFrom cX0_copyFrom 2 none, Cond.fieldLink RX0 9 "PledgedLoans$Books" "shares" "[I", Cond.fieldLink RX0 15 "PledgedLoans$Books" "shareDays" "[I", Cond.fieldLink RX0 18 "PledgedLoans$Books" "pledges" "[I", Cond.fieldLink RX0 21 "PledgedLoans$Books" "rest" "[I", Cond.fieldLink RX0 24 "PledgedLoans$Books" "part" "[I", Cond.fieldLink RX0 27 "PledgedLoans$Books" "paid" "[I", Cond.fieldLink RX0 30 "PledgedLoans$Books" "misses" "[I", Cond.fieldLink RX0 33 "PledgedLoans$Books" "settings" "[I", Cond.fieldLink RX0 40 "PledgedLoans$Books" "till" "I", Cond.fieldLink RX0 44 "PledgedLoans$Books" "surplus" "I", Cond.fieldLink RX0 47 "PledgedLoans$Books" "loansGiven" "I", Cond.fieldLink RX0 50 "PledgedLoans$Books" "loansFallenDue" "I", Cond.fieldLink RX0 53 "PledgedLoans$Books" "weeksEnded" "I", Cond.fieldLink RX0 56 "PledgedLoans$Books" "day" "I", Cond.fieldLink RX0 59 "PledgedLoans$Books" "refused" "I", Cond.fieldLink RX0 62 "PledgedLoans$Books" "dividendsPaid" "I"]
def wsL_goBack_r3 : List Cond := [Cond.methodLink RX0 36 yX0_copyRow, Cond.static yX0_copyRow, Cond.code yX0_copyRow cX0_copyRow 2 none, Cond.methodLink RX0 65 Lib.Math.min.name, Cond.static Lib.Math.min.name, Cond.initialized "java/lang/Math", Cond.code Lib.Math.min.name Lib.Math.min.code 2 (some .int), Cond.methodLink RX0 71 arraycopyName, Cond.native arraycopyName, Cond.static arraycopyName, Cond.initialized "java/lang/System", Cond.methodLink RX2 138 yX0_loans, Cond.instanceMethod yX0_loans, Cond.selects RX0 yX0_loans yX0_loans, Cond.code yX0_loans cX0_loans 3 (some .int), Cond.methodLink RX0 77 yX0_hasLoan, Cond.instanceMethod yX0_hasLoan, Cond.selects RX0 yX0_hasLoan yX0_hasLoan, Cond.code yX0_hasLoan cX0_hasLoan 2 (some .boolean)]
def wsL_goBack : List Cond := .codeWith yL_goBack cL_goBack 4 (some .int) [(0, 9, 12, 15), (0, 9, 15, 37)] :: ((wsL_goBack_r1 ++ (wsL_goBack_r2 ++ wsL_goBack_r3)) ++ wsX20 ++ wsX00 ++ (vx_atS RX2 88 "java/lang/IllegalStateException" ["java/lang/RuntimeException", "java/lang/Exception"]).filter goodWord ++ (vx_atS RX2 130 "java/lang/IllegalArgumentException" ["java/lang/RuntimeException", "java/lang/Exception"]).filter goodWord)
def wsL_undo_r1 : List Cond := [Cond.classLink RL 37 "java/lang/IllegalStateException", Cond.methodLink RL 58 yX2_undo, Cond.instanceMethod yX2_undo, Cond.selects RX2 yX2_undo yX2_undo, Cond.initialized RX2, Cond.code yX2_undo cX2_undo 1 (some .int), Cond.classLink RX2 84 "java/lang/IllegalStateException", Cond.initialized "java/lang/IllegalStateException", Cond.fieldLink RX2 143 "PledgedLoans" "savedStates" "I", Cond.fieldLink RX2 10 "PledgedLoans" "books" "LPledgedLoans$Books;", Cond.fieldLink RX2 16 "PledgedLoans" "saved" "[LPledgedLoans$Books;", Cond.methodLink RX2 134 yX0_copyFrom, Cond.instanceMethod yX0_copyFrom, Cond.selects RX0 yX0_copyFrom yX0_copyFrom, Cond.initialized RX0, Cond.code yX0_copyFrom cX0_copyFrom 2 none, Cond.fieldLink RX0 9 "PledgedLoans$Books" "shares" "[I", Cond.fieldLink RX0 15 "PledgedLoans$Books" "shareDays" "[I", Cond.fieldLink RX0 18 "PledgedLoans$Books" "pledges" "[I", Cond.fieldLink RX0 21 "PledgedLoans$Books" "rest" "[I", Cond.fieldLink RX0 24 "PledgedLoans$Books" "part" "[I", Cond.fieldLink RX0 27 "PledgedLoans$Books" "paid" "[I", Cond.fieldLink RX0 30 "PledgedLoans$Books" "misses" "[I", Cond.fieldLink RX0 33 "PledgedLoans$Books" "settings" "[I"]
def wsL_undo_r2 : List Cond := [Cond.fieldLink RX0 40 "PledgedLoans$Books" "till" "I", Cond.fieldLink RX0 44 "PledgedLoans$Books" "surplus" "I", Cond.fieldLink RX0 47 "PledgedLoans$Books" "loansGiven" "I", Cond.fieldLink RX0 50 "PledgedLoans$Books" "loansFallenDue" "I", Cond.fieldLink RX0 53 "PledgedLoans$Books" "weeksEnded" "I", Cond.fieldLink RX0 56 "PledgedLoans$Books" "day" "I", Cond.fieldLink RX0 59 "PledgedLoans$Books" "refused" "I", Cond.fieldLink RX0 62 "PledgedLoans$Books" "dividendsPaid" "I", Cond.methodLink RX0 36 yX0_copyRow, Cond.static yX0_copyRow, Cond.code yX0_copyRow cX0_copyRow 2 none, Cond.methodLink RX0 65 Lib.Math.min.name, Cond.static Lib.Math.min.name, Cond.initialized "java/lang/Math", Cond.code Lib.Math.min.name Lib.Math.min.code 2 (some .int), Cond.methodLink RX0 71 arraycopyName, Cond.native arraycopyName, Cond.static arraycopyName, Cond.initialized "java/lang/System"]
def wsL_undo : List Cond := .codeWith yL_undo cL_undo 3 (some .int) [(0, 8, 11, 37)] :: ((wsL_undo_r1 ++ wsL_undo_r2) ++ wsX20 ++ wsX00 ++ (vx_atS RX2 88 "java/lang/IllegalStateException" ["java/lang/RuntimeException", "java/lang/Exception"]).filter goodWord)
def wsL_memberOf_r1 : List Cond := [Cond.classLink RL 13 "java/lang/IndexOutOfBoundsException", Cond.classLink RL 15 "java/lang/IllegalArgumentException", Cond.methodLink RL 61 yX2_memberOf, Cond.instanceMethod yX2_memberOf, Cond.selects RX2 yX2_memberOf yX2_memberOf, Cond.initialized RX2, Cond.code yX2_memberOf cX2_memberOf 3 (some .int), Cond.fieldLink RX2 10 "PledgedLoans" "books" "LPledgedLoans$Books;", Cond.methodLink RX2 42 yX2_checkMember, Cond.static yX2_checkMember, Cond.code yX2_checkMember cX2_checkMember 1 none, Cond.classLink RX2 208 "java/lang/IndexOutOfBoundsException", Cond.initialized "java/lang/IndexOutOfBoundsException", Cond.methodLink RX2 70 yX2_checkRange, Cond.static yX2_checkRange, Cond.code yX2_checkRange cX2_checkRange 3 none, Cond.classLink RX2 126 "java/lang/IllegalArgumentException", Cond.initialized "java/lang/IllegalArgumentException", Cond.methodLink RX2 148 yX0_property, Cond.instanceMethod yX0_property, Cond.selects RX0 yX0_property yX0_property, Cond.initialized RX0, Cond.code yX0_property cX0_property 3 (some .int), Cond.fieldLink RX0 9 "PledgedLoans$Books" "shares" "[I"]
def wsL_memberOf_r2 : List Cond := [Cond.fieldLink RX0 15 "PledgedLoans$Books" "shareDays" "[I", Cond.fieldLink RX0 21 "PledgedLoans$Books" "rest" "[I", Cond.fieldLink RX0 24 "PledgedLoans$Books" "part" "[I", Cond.fieldLink RX0 27 "PledgedLoans$Books" "paid" "[I", Cond.fieldLink RX0 30 "PledgedLoans$Books" "misses" "[I", Cond.methodLink RX0 81 yX0_pledgedBy, Cond.instanceMethod yX0_pledgedBy, Cond.selects RX0 yX0_pledgedBy yX0_pledgedBy, Cond.code yX0_pledgedBy cX0_pledgedBy 5 (some .int), Cond.fieldLink RX0 18 "PledgedLoans$Books" "pledges" "[I", Cond.methodLink RX0 88 yX0_pledgedFor, Cond.instanceMethod yX0_pledgedFor, Cond.selects RX0 yX0_pledgedFor yX0_pledgedFor, Cond.code yX0_pledgedFor cX0_pledgedFor 4 (some .int), Cond.methodLink RX0 94 yX0_cover, Cond.instanceMethod yX0_cover, Cond.selects RX0 yX0_cover yX0_cover, Cond.code yX0_cover cX0_cover 2 (some .int), Cond.methodLink RX0 85 yX0_ownLeft, Cond.instanceMethod yX0_ownLeft, Cond.selects RX0 yX0_ownLeft yX0_ownLeft, Cond.code yX0_ownLeft cX0_ownLeft 2 (some .int), Cond.methodLink RX0 97 yX0_freeShares, Cond.instanceMethod yX0_freeShares]
def wsL_memberOf_r3 : List Cond := [Cond.selects RX0 yX0_freeShares yX0_freeShares, Cond.code yX0_freeShares cX0_freeShares 2 (some .int), Cond.methodLink RX0 91 Lib.Math.max.name, Cond.static Lib.Math.max.name, Cond.initialized "java/lang/Math", Cond.code Lib.Math.max.name Lib.Math.max.code 2 (some .int), Cond.methodLink RX0 77 yX0_hasLoan, Cond.instanceMethod yX0_hasLoan, Cond.selects RX0 yX0_hasLoan yX0_hasLoan, Cond.code yX0_hasLoan cX0_hasLoan 2 (some .boolean)]
def wsL_memberOf : List Cond := .codeWith yL_memberOf cL_memberOf 5 (some .int) [(0, 10, 13, 13), (0, 10, 17, 15)] :: ((wsL_memberOf_r1 ++ (wsL_memberOf_r2 ++ wsL_memberOf_r3)) ++ wsX20 ++ wsX00 ++ (vx_atS RX2 212 "java/lang/IndexOutOfBoundsException" ["java/lang/RuntimeException", "java/lang/Exception"]).filter goodWord ++ (vx_atS RX2 130 "java/lang/IllegalArgumentException" ["java/lang/RuntimeException", "java/lang/Exception"]).filter goodWord)
def wsL_pledged : List Cond := .codeWith yL_pledged cL_pledged 5 (some .int) [(0, 10, 13, 13)] :: ([.classLink RL 13 "java/lang/IndexOutOfBoundsException", .methodLink RL 64 yX2_pledged, .instanceMethod yX2_pledged, .selects RX2 yX2_pledged yX2_pledged, .initialized RX2, .code yX2_pledged cX2_pledged 3 (some .int), .fieldLink RX2 10 "PledgedLoans" "books" "LPledgedLoans$Books;", .fieldLink RX2 151 "PledgedLoans$Books" "pledges" "[I", .methodLink RX2 42 yX2_checkMember, .static yX2_checkMember, .code yX2_checkMember cX2_checkMember 1 none, .classLink RX2 208 "java/lang/IndexOutOfBoundsException", .initialized "java/lang/IndexOutOfBoundsException", .methodLink RX2 154 yX0_place, .static yX0_place, .initialized RX0, .code yX0_place cX0_place 2 (some .int)] ++ wsX20 ++ wsX00 ++ (vx_atS RX2 212 "java/lang/IndexOutOfBoundsException" ["java/lang/RuntimeException", "java/lang/Exception"]).filter goodWord)
def wsL_count_r1 : List Cond := [Cond.classLink RL 15 "java/lang/IllegalArgumentException", Cond.methodLink RL 67 yX2_count, Cond.instanceMethod yX2_count, Cond.selects RX2 yX2_count yX2_count, Cond.initialized RX2, Cond.code yX2_count cX2_count 2 (some .int), Cond.methodLink RX2 70 yX2_checkRange, Cond.static yX2_checkRange, Cond.code yX2_checkRange cX2_checkRange 3 none, Cond.classLink RX2 126 "java/lang/IllegalArgumentException", Cond.initialized "java/lang/IllegalArgumentException", Cond.methodLink RX2 157 yX2_number, Cond.instanceMethod yX2_number, Cond.selects RX2 yX2_number yX2_number, Cond.code yX2_number cX2_number 2 (some .int), Cond.fieldLink RX2 10 "PledgedLoans" "books" "LPledgedLoans$Books;", Cond.fieldLink RX2 248 "PledgedLoans$Books" "till" "I", Cond.fieldLink RX2 251 "PledgedLoans$Books" "surplus" "I", Cond.fieldLink RX2 260 "PledgedLoans$Books" "loansGiven" "I", Cond.fieldLink RX2 263 "PledgedLoans$Books" "loansFallenDue" "I", Cond.fieldLink RX2 266 "PledgedLoans$Books" "weeksEnded" "I", Cond.fieldLink RX2 269 "PledgedLoans$Books" "day" "I", Cond.fieldLink RX2 272 "PledgedLoans$Books" "refused" "I", Cond.fieldLink RX2 275 "PledgedLoans$Books" "dividendsPaid" "I"]
def wsL_count_r2 : List Cond := [Cond.fieldLink RX2 143 "PledgedLoans" "savedStates" "I", Cond.methodLink RX2 254 yX0_allShares, Cond.instanceMethod yX0_allShares, Cond.selects RX0 yX0_allShares yX0_allShares, Cond.initialized RX0, Cond.code yX0_allShares cX0_allShares 6 (some .int), Cond.fieldLink RX0 9 "PledgedLoans$Books" "shares" "[I", Cond.methodLink RX2 257 yX0_allRests, Cond.instanceMethod yX0_allRests, Cond.selects RX0 yX0_allRests yX0_allRests, Cond.code yX0_allRests cX0_allRests 6 (some .int), Cond.fieldLink RX0 21 "PledgedLoans$Books" "rest" "[I", Cond.methodLink RX2 138 yX0_loans, Cond.instanceMethod yX0_loans, Cond.selects RX0 yX0_loans yX0_loans, Cond.code yX0_loans cX0_loans 3 (some .int), Cond.methodLink RX0 77 yX0_hasLoan, Cond.instanceMethod yX0_hasLoan, Cond.selects RX0 yX0_hasLoan yX0_hasLoan, Cond.code yX0_hasLoan cX0_hasLoan 2 (some .boolean)]
def wsL_count : List Cond := .codeWith yL_count cL_count 4 (some .int) [(0, 9, 12, 15)] :: ((wsL_count_r1 ++ wsL_count_r2) ++ wsX20 ++ wsX00 ++ (vx_atS RX2 130 "java/lang/IllegalArgumentException" ["java/lang/RuntimeException", "java/lang/Exception"]).filter goodWord)
def wsL_setting : List Cond := .codeWith yL_setting cL_setting 4 (some .int) [(0, 9, 12, 13)] :: ([.classLink RL 13 "java/lang/IndexOutOfBoundsException", .methodLink RL 70 yX2_setting, .instanceMethod yX2_setting, .selects RX2 yX2_setting yX2_setting, .initialized RX2, .code yX2_setting cX2_setting 2 (some .int), .fieldLink RX2 10 "PledgedLoans" "books" "LPledgedLoans$Books;", .fieldLink RX2 111 "PledgedLoans$Books" "settings" "[I", .methodLink RX2 108 yX2_checkSetting, .static yX2_checkSetting, .code yX2_checkSetting cX2_checkSetting 1 none, .classLink RX2 208 "java/lang/IndexOutOfBoundsException", .initialized "java/lang/IndexOutOfBoundsException"] ++ wsX20 ++ wsX00 ++ (vx_atS RX2 212 "java/lang/IndexOutOfBoundsException" ["java/lang/RuntimeException", "java/lang/Exception"]).filter goodWord)
def wsL_whyNot_r1 : List Cond := [Cond.classLink RL 13 "java/lang/IndexOutOfBoundsException", Cond.classLink RL 15 "java/lang/IllegalArgumentException", Cond.methodLink RL 73 yX2_whyNot, Cond.instanceMethod yX2_whyNot, Cond.selects RX2 yX2_whyNot yX2_whyNot, Cond.initialized RX2, Cond.code yX2_whyNot cX2_whyNot 3 (some .int), Cond.fieldLink RX2 10 "PledgedLoans" "books" "LPledgedLoans$Books;", Cond.methodLink RX2 42 yX2_checkMember, Cond.static yX2_checkMember, Cond.code yX2_checkMember cX2_checkMember 1 none, Cond.classLink RX2 208 "java/lang/IndexOutOfBoundsException", Cond.initialized "java/lang/IndexOutOfBoundsException", Cond.methodLink RX2 46 yX2_checkAmount, Cond.static yX2_checkAmount, Cond.code yX2_checkAmount cX2_checkAmount 1 none, Cond.methodLink RX2 70 yX2_checkRange, Cond.static yX2_checkRange, Cond.code yX2_checkRange cX2_checkRange 3 none, Cond.classLink RX2 126 "java/lang/IllegalArgumentException", Cond.initialized "java/lang/IllegalArgumentException", Cond.methodLink RX2 160 yX0_whyNoLoan, Cond.instanceMethod yX0_whyNoLoan, Cond.selects RX0 yX0_whyNoLoan yX0_whyNoLoan]
def wsL_whyNot_r2 : List Cond := [Cond.initialized RX0, Cond.code yX0_whyNoLoan cX0_whyNoLoan 3 (some .int), Cond.methodLink RX0 77 yX0_hasLoan, Cond.instanceMethod yX0_hasLoan, Cond.selects RX0 yX0_hasLoan yX0_hasLoan, Cond.code yX0_hasLoan cX0_hasLoan 2 (some .boolean), Cond.fieldLink RX0 21 "PledgedLoans$Books" "rest" "[I", Cond.methodLink RX0 104 yX0_threefold, Cond.instanceMethod yX0_threefold, Cond.selects RX0 yX0_threefold yX0_threefold, Cond.code yX0_threefold cX0_threefold 2 (some .int), Cond.fieldLink RX0 9 "PledgedLoans$Books" "shares" "[I", Cond.methodLink RX0 94 yX0_cover, Cond.instanceMethod yX0_cover, Cond.selects RX0 yX0_cover yX0_cover, Cond.code yX0_cover cX0_cover 2 (some .int), Cond.methodLink RX0 85 yX0_ownLeft, Cond.instanceMethod yX0_ownLeft, Cond.selects RX0 yX0_ownLeft yX0_ownLeft, Cond.code yX0_ownLeft cX0_ownLeft 2 (some .int), Cond.methodLink RX0 81 yX0_pledgedBy, Cond.instanceMethod yX0_pledgedBy, Cond.selects RX0 yX0_pledgedBy yX0_pledgedBy, Cond.code yX0_pledgedBy cX0_pledgedBy 5 (some .int)]
def wsL_whyNot_r3 : List Cond := [Cond.fieldLink RX0 18 "PledgedLoans$Books" "pledges" "[I", Cond.methodLink RX0 88 yX0_pledgedFor, Cond.instanceMethod yX0_pledgedFor, Cond.selects RX0 yX0_pledgedFor yX0_pledgedFor, Cond.code yX0_pledgedFor cX0_pledgedFor 4 (some .int), Cond.methodLink RX0 107 yX0_whyAbove, Cond.instanceMethod yX0_whyAbove, Cond.selects RX0 yX0_whyAbove yX0_whyAbove, Cond.code yX0_whyAbove cX0_whyAbove 4 (some .int), Cond.fieldLink RX0 40 "PledgedLoans$Books" "till" "I", Cond.methodLink RX0 111 yX0_feeOf, Cond.instanceMethod yX0_feeOf, Cond.selects RX0 yX0_feeOf yX0_feeOf, Cond.code yX0_feeOf cX0_feeOf 2 (some .int), Cond.fieldLink RX0 33 "PledgedLoans$Books" "settings" "[I"]
def wsL_whyNot : List Cond := .codeWith yL_whyNot cL_whyNot 5 (some .int) [(0, 10, 13, 13), (0, 10, 17, 15)] :: ((wsL_whyNot_r1 ++ (wsL_whyNot_r2 ++ wsL_whyNot_r3)) ++ wsX20 ++ wsX00 ++ (vx_atS RX2 212 "java/lang/IndexOutOfBoundsException" ["java/lang/RuntimeException", "java/lang/Exception"]).filter goodWord ++ (vx_atS RX2 130 "java/lang/IllegalArgumentException" ["java/lang/RuntimeException", "java/lang/Exception"]).filter goodWord)
def wsL_greatest_r1 : List Cond := [Cond.classLink RL 13 "java/lang/IndexOutOfBoundsException", Cond.classLink RL 15 "java/lang/IllegalArgumentException", Cond.methodLink RL 76 yX2_greatest, Cond.instanceMethod yX2_greatest, Cond.selects RX2 yX2_greatest yX2_greatest, Cond.initialized RX2, Cond.code yX2_greatest cX2_greatest 3 (some .int), Cond.methodLink RX2 42 yX2_checkMember, Cond.static yX2_checkMember, Cond.code yX2_checkMember cX2_checkMember 1 none, Cond.classLink RX2 208 "java/lang/IndexOutOfBoundsException", Cond.initialized "java/lang/IndexOutOfBoundsException", Cond.methodLink RX2 70 yX2_checkRange, Cond.static yX2_checkRange, Cond.code yX2_checkRange cX2_checkRange 3 none, Cond.classLink RX2 126 "java/lang/IllegalArgumentException", Cond.initialized "java/lang/IllegalArgumentException", Cond.methodLink RX2 163 yX2_greatestByHalving, Cond.instanceMethod yX2_greatestByHalving, Cond.selects RX2 yX2_greatestByHalving yX2_greatestByHalving, Cond.code yX2_greatestByHalving cX2_greatestByHalving 5 (some .int), Cond.fieldLink RX2 10 "PledgedLoans" "books" "LPledgedLoans$Books;", Cond.methodLink RX2 160 yX0_whyNoLoan, Cond.instanceMethod yX0_whyNoLoan]
def wsL_greatest_r2 : List Cond := [Cond.selects RX0 yX0_whyNoLoan yX0_whyNoLoan, Cond.initialized RX0, Cond.code yX0_whyNoLoan cX0_whyNoLoan 3 (some .int), Cond.methodLink RX0 77 yX0_hasLoan, Cond.instanceMethod yX0_hasLoan, Cond.selects RX0 yX0_hasLoan yX0_hasLoan, Cond.code yX0_hasLoan cX0_hasLoan 2 (some .boolean), Cond.fieldLink RX0 21 "PledgedLoans$Books" "rest" "[I", Cond.methodLink RX0 104 yX0_threefold, Cond.instanceMethod yX0_threefold, Cond.selects RX0 yX0_threefold yX0_threefold, Cond.code yX0_threefold cX0_threefold 2 (some .int), Cond.fieldLink RX0 9 "PledgedLoans$Books" "shares" "[I", Cond.methodLink RX0 94 yX0_cover, Cond.instanceMethod yX0_cover, Cond.selects RX0 yX0_cover yX0_cover, Cond.code yX0_cover cX0_cover 2 (some .int), Cond.methodLink RX0 85 yX0_ownLeft, Cond.instanceMethod yX0_ownLeft, Cond.selects RX0 yX0_ownLeft yX0_ownLeft, Cond.code yX0_ownLeft cX0_ownLeft 2 (some .int), Cond.methodLink RX0 81 yX0_pledgedBy, Cond.instanceMethod yX0_pledgedBy, Cond.selects RX0 yX0_pledgedBy yX0_pledgedBy]
def wsL_greatest_r3 : List Cond := [Cond.code yX0_pledgedBy cX0_pledgedBy 5 (some .int), Cond.fieldLink RX0 18 "PledgedLoans$Books" "pledges" "[I", Cond.methodLink RX0 88 yX0_pledgedFor, Cond.instanceMethod yX0_pledgedFor, Cond.selects RX0 yX0_pledgedFor yX0_pledgedFor, Cond.code yX0_pledgedFor cX0_pledgedFor 4 (some .int), Cond.methodLink RX0 107 yX0_whyAbove, Cond.instanceMethod yX0_whyAbove, Cond.selects RX0 yX0_whyAbove yX0_whyAbove, Cond.code yX0_whyAbove cX0_whyAbove 4 (some .int), Cond.fieldLink RX0 40 "PledgedLoans$Books" "till" "I", Cond.methodLink RX0 111 yX0_feeOf, Cond.instanceMethod yX0_feeOf, Cond.selects RX0 yX0_feeOf yX0_feeOf, Cond.code yX0_feeOf cX0_feeOf 2 (some .int), Cond.fieldLink RX0 33 "PledgedLoans$Books" "settings" "[I", Cond.methodLink RX2 166 yX2_greatestByAll, Cond.instanceMethod yX2_greatestByAll, Cond.selects RX2 yX2_greatestByAll yX2_greatestByAll, Cond.code yX2_greatestByAll cX2_greatestByAll 5 (some .int), Cond.methodLink RX2 278 yX0_hasLoan, Cond.methodLink RX2 281 yX0_threefold, Cond.methodLink RX2 284 yX0_cover, Cond.methodLink RX2 287 yX0_whyAbove]
def wsL_greatest : List Cond := .codeWith yL_greatest cL_greatest 5 (some .int) [(0, 10, 13, 13), (0, 10, 17, 15)] :: ((wsL_greatest_r1 ++ (wsL_greatest_r2 ++ wsL_greatest_r3)) ++ wsX20 ++ wsX00 ++ (vx_atS RX2 212 "java/lang/IndexOutOfBoundsException" ["java/lang/RuntimeException", "java/lang/Exception"]).filter goodWord ++ (vx_atS RX2 130 "java/lang/IllegalArgumentException" ["java/lang/RuntimeException", "java/lang/Exception"]).filter goodWord)
def wsL_guarantors_r1 : List Cond := [Cond.classLink RL 13 "java/lang/IndexOutOfBoundsException", Cond.classLink RL 15 "java/lang/IllegalArgumentException", Cond.methodLink RL 79 yX2_guarantors, Cond.instanceMethod yX2_guarantors, Cond.selects RX2 yX2_guarantors yX2_guarantors, Cond.initialized RX2, Cond.code yX2_guarantors cX2_guarantors 4 (some .int), Cond.methodLink RX2 42 yX2_checkMember, Cond.static yX2_checkMember, Cond.code yX2_checkMember cX2_checkMember 1 none, Cond.classLink RX2 208 "java/lang/IndexOutOfBoundsException", Cond.initialized "java/lang/IndexOutOfBoundsException", Cond.methodLink RX2 46 yX2_checkAmount, Cond.static yX2_checkAmount, Cond.code yX2_checkAmount cX2_checkAmount 1 none, Cond.methodLink RX2 70 yX2_checkRange, Cond.static yX2_checkRange, Cond.code yX2_checkRange cX2_checkRange 3 none, Cond.classLink RX2 126 "java/lang/IllegalArgumentException", Cond.initialized "java/lang/IllegalArgumentException", Cond.methodLink RX2 169 yX2_fewestByGreatest, Cond.instanceMethod yX2_fewestByGreatest, Cond.selects RX2 yX2_fewestByGreatest yX2_fewestByGreatest, Cond.code yX2_fewestByGreatest cX2_fewestByGreatest 7 (some .int)]
def wsL_guarantors_r2 : List Cond := [Cond.fieldLink RX2 10 "PledgedLoans" "books" "LPledgedLoans$Books;", Cond.fieldLink RX2 38 "PledgedLoans" "free" "[I", Cond.methodLink RX2 290 yX2_fillFree, Cond.instanceMethod yX2_fillFree, Cond.selects RX2 yX2_fillFree yX2_fillFree, Cond.code yX2_fillFree cX2_fillFree 2 none, Cond.methodLink RX2 304 yX0_freeShares, Cond.instanceMethod yX0_freeShares, Cond.selects RX0 yX0_freeShares yX0_freeShares, Cond.initialized RX0, Cond.code yX0_freeShares cX0_freeShares 2 (some .int), Cond.fieldLink RX0 21 "PledgedLoans$Books" "rest" "[I", Cond.methodLink RX0 91 Lib.Math.max.name, Cond.static Lib.Math.max.name, Cond.initialized "java/lang/Math", Cond.code Lib.Math.max.name Lib.Math.max.code 2 (some .int), Cond.methodLink RX0 85 yX0_ownLeft, Cond.instanceMethod yX0_ownLeft, Cond.selects RX0 yX0_ownLeft yX0_ownLeft, Cond.code yX0_ownLeft cX0_ownLeft 2 (some .int), Cond.fieldLink RX0 9 "PledgedLoans$Books" "shares" "[I", Cond.methodLink RX0 81 yX0_pledgedBy, Cond.instanceMethod yX0_pledgedBy, Cond.selects RX0 yX0_pledgedBy yX0_pledgedBy]
def wsL_guarantors_r3 : List Cond := [Cond.code yX0_pledgedBy cX0_pledgedBy 5 (some .int), Cond.fieldLink RX0 18 "PledgedLoans$Books" "pledges" "[I", Cond.methodLink RX0 88 yX0_pledgedFor, Cond.instanceMethod yX0_pledgedFor, Cond.selects RX0 yX0_pledgedFor yX0_pledgedFor, Cond.code yX0_pledgedFor cX0_pledgedFor 4 (some .int), Cond.methodLink RX2 284 yX0_cover, Cond.instanceMethod yX0_cover, Cond.selects RX0 yX0_cover yX0_cover, Cond.code yX0_cover cX0_cover 2 (some .int), Cond.methodLink RX2 293 yX2_freest, Cond.instanceMethod yX2_freest, Cond.selects RX2 yX2_freest yX2_freest, Cond.code yX2_freest cX2_freest 4 (some .int), Cond.methodLink RX2 172 yX2_fewestBySets, Cond.instanceMethod yX2_fewestBySets, Cond.selects RX2 yX2_fewestBySets yX2_fewestBySets, Cond.code yX2_fewestBySets cX2_fewestBySets 8 (some .int), Cond.methodLink RX2 296 yJ6_bitCount_0f7a4, Cond.static yJ6_bitCount_0f7a4, Cond.initialized RJ6, Cond.code yJ6_bitCount_0f7a4 cJ6_bitCount_0f7a4 1 (some .int), Cond.constant RJ6 265 (1431655765), Cond.constant RJ6 266 (858993459)]
def wsL_guarantors_r4 : List Cond := [Cond.constant RJ6 267 (252645135), Cond.methodLink RX2 301 yX2_freeOf, Cond.instanceMethod yX2_freeOf, Cond.selects RX2 yX2_freeOf yX2_freeOf, Cond.code yX2_freeOf cX2_freeOf 4 (some .int)]
def wsL_guarantors : List Cond := .codeWith yL_guarantors cL_guarantors 6 (some .int) [(0, 12, 15, 13), (0, 12, 19, 15)] :: ((wsL_guarantors_r1 ++ (wsL_guarantors_r2 ++ (wsL_guarantors_r3 ++ wsL_guarantors_r4))) ++ wsX20 ++ wsX00 ++ (vx_atS RX2 212 "java/lang/IndexOutOfBoundsException" ["java/lang/RuntimeException", "java/lang/Exception"]).filter goodWord ++ (vx_atS RX2 130 "java/lang/IllegalArgumentException" ["java/lang/RuntimeException", "java/lang/Exception"]).filter goodWord)
def wsL_weeksLeft_r1 : List Cond := [Cond.classLink RL 13 "java/lang/IndexOutOfBoundsException", Cond.classLink RL 15 "java/lang/IllegalArgumentException", Cond.methodLink RL 82 yX2_weeksLeft, Cond.instanceMethod yX2_weeksLeft, Cond.selects RX2 yX2_weeksLeft yX2_weeksLeft, Cond.initialized RX2, Cond.code yX2_weeksLeft cX2_weeksLeft 3 (some .int), Cond.fieldLink RX2 10 "PledgedLoans" "books" "LPledgedLoans$Books;", Cond.methodLink RX2 42 yX2_checkMember, Cond.static yX2_checkMember, Cond.code yX2_checkMember cX2_checkMember 1 none, Cond.classLink RX2 208 "java/lang/IndexOutOfBoundsException", Cond.initialized "java/lang/IndexOutOfBoundsException", Cond.methodLink RX2 70 yX2_checkRange, Cond.static yX2_checkRange, Cond.code yX2_checkRange cX2_checkRange 3 none, Cond.classLink RX2 126 "java/lang/IllegalArgumentException", Cond.initialized "java/lang/IllegalArgumentException", Cond.methodLink RX2 175 yX0_weeksByWeeks, Cond.instanceMethod yX0_weeksByWeeks, Cond.selects RX0 yX0_weeksByWeeks yX0_weeksByWeeks, Cond.initialized RX0, Cond.code yX0_weeksByWeeks cX0_weeksByWeeks 4 (some .int), Cond.fieldLink RX0 21 "PledgedLoans$Books" "rest" "[I"]
def wsL_weeksLeft_r2 : List Cond := [Cond.fieldLink RX0 24 "PledgedLoans$Books" "part" "[I", Cond.methodLink RX0 65 Lib.Math.min.name, Cond.static Lib.Math.min.name, Cond.initialized "java/lang/Math", Cond.code Lib.Math.min.name Lib.Math.min.code 2 (some .int), Cond.methodLink RX2 178 yX0_weeksAtOnce, Cond.instanceMethod yX0_weeksAtOnce, Cond.selects RX0 yX0_weeksAtOnce yX0_weeksAtOnce, Cond.code yX0_weeksAtOnce cX0_weeksAtOnce 3 (some .int), Cond.methodLink RX0 77 yX0_hasLoan, Cond.instanceMethod yX0_hasLoan, Cond.selects RX0 yX0_hasLoan yX0_hasLoan, Cond.code yX0_hasLoan cX0_hasLoan 2 (some .boolean)]
def wsL_weeksLeft : List Cond := .codeWith yL_weeksLeft cL_weeksLeft 5 (some .int) [(0, 10, 13, 13), (0, 10, 17, 15)] :: ((wsL_weeksLeft_r1 ++ wsL_weeksLeft_r2) ++ wsX20 ++ wsX00 ++ (vx_atS RX2 212 "java/lang/IndexOutOfBoundsException" ["java/lang/RuntimeException", "java/lang/Exception"]).filter goodWord ++ (vx_atS RX2 130 "java/lang/IllegalArgumentException" ["java/lang/RuntimeException", "java/lang/Exception"]).filter goodWord)
def wsL_ifDivided : List Cond := .codeWith yL_ifDivided cL_ifDivided 4 (some .int) [(0, 9, 12, 13)] :: ([.classLink RL 13 "java/lang/IndexOutOfBoundsException", .methodLink RL 85 yX2_ifDivided, .instanceMethod yX2_ifDivided, .selects RX2 yX2_ifDivided yX2_ifDivided, .initialized RX2, .code yX2_ifDivided cX2_ifDivided 2 (some .int), .fieldLink RX2 10 "PledgedLoans" "books" "LPledgedLoans$Books;", .methodLink RX2 42 yX2_checkMember, .static yX2_checkMember, .code yX2_checkMember cX2_checkMember 1 none, .classLink RX2 208 "java/lang/IndexOutOfBoundsException", .initialized "java/lang/IndexOutOfBoundsException", .methodLink RX2 181 yX0_allShareDays, .instanceMethod yX0_allShareDays, .selects RX0 yX0_allShareDays yX0_allShareDays, .initialized RX0, .code yX0_allShareDays cX0_allShareDays 7 (some .long), .fieldLink RX0 15 "PledgedLoans$Books" "shareDays" "[I", .methodLink RX2 185 yX0_dividendOf, .instanceMethod yX0_dividendOf, .selects RX0 yX0_dividendOf yX0_dividendOf, .code yX0_dividendOf cX0_dividendOf 4 (some .int), .fieldLink RX0 44 "PledgedLoans$Books" "surplus" "I"] ++ wsX20 ++ wsX00 ++ (vx_atS RX2 212 "java/lang/IndexOutOfBoundsException" ["java/lang/RuntimeException", "java/lang/Exception"]).filter goodWord)
def wsL_law0_r1 : List Cond := [Cond.classLink RL 8 RX2, Cond.instantiable RX2 9, Cond.initialized RX2, Cond.classLink RL 89 RX3, Cond.instantiable RX3 14, Cond.initialized RX3, Cond.arrayClass .long, Cond.methodLink RL 88 yX2_init, Cond.instanceMethod yX2_init, Cond.code yX2_init cX2_init 2 none, Cond.methodLink RX2 1 objectInit, Cond.instanceMethod objectInit, Cond.code objectInit ⟨#[0xb1]⟩ 1 none, Cond.classLink RX2 7 RX0, Cond.instantiable RX0 16, Cond.initialized RX0, Cond.fieldLink RX2 10 "PledgedLoans" "books" "LPledgedLoans$Books;", Cond.fieldLink RX2 16 "PledgedLoans" "saved" "[LPledgedLoans$Books;", Cond.fieldLink RX2 20 "PledgedLoans" "slots" "[LPledgedLoans$Books;", Cond.arrayClass .boolean, Cond.fieldLink RX2 23 "PledgedLoans" "slotFilled" "[Z", Cond.arrayClass .char, Cond.fieldLink RX2 27 "PledgedLoans" "buffer" "[C", Cond.classLink RX2 31 RX1]
def wsL_law0_r2 : List Cond := [Cond.instantiable RX1 6, Cond.initialized RX1, Cond.fieldLink RX2 34 "PledgedLoans" "reader" "LPledgedLoans$OrderReader;", Cond.arrayClass .int, Cond.fieldLink RX2 38 "PledgedLoans" "free" "[I", Cond.instanceMethod yX0_init, Cond.code yX0_init cX0_init 1 none, Cond.methodLink RX0 3 objectInit, Cond.fieldLink RX0 9 "PledgedLoans$Books" "shares" "[I", Cond.fieldLink RX0 15 "PledgedLoans$Books" "shareDays" "[I", Cond.fieldLink RX0 18 "PledgedLoans$Books" "pledges" "[I", Cond.fieldLink RX0 21 "PledgedLoans$Books" "rest" "[I", Cond.fieldLink RX0 24 "PledgedLoans$Books" "part" "[I", Cond.fieldLink RX0 27 "PledgedLoans$Books" "paid" "[I", Cond.fieldLink RX0 30 "PledgedLoans$Books" "misses" "[I", Cond.fieldLink RX0 33 "PledgedLoans$Books" "settings" "[I", Cond.instanceMethod yX1_init, Cond.code yX1_init cX1_init 1 none, Cond.methodLink RX1 3 objectInit, Cond.methodLink RL 91 yX3_init, Cond.instanceMethod yX3_init, Cond.code yX3_init cX3_init 1 none, Cond.methodLink RX3 1 objectInit, Cond.fieldLink RX3 7 "PledgedLoansModel" "s" "[I"]
def wsL_law0_r3 : List Cond := [Cond.fieldLink RX3 13 "PledgedLoansModel" "isKept" "[Z", Cond.fieldLink RX3 17 "PledgedLoansModel" "text" "[I", Cond.fieldLink RX3 20 "PledgedLoansModel" "frees" "[I", Cond.methodLink RL 92 yL_payIn, Cond.static yL_payIn, Cond.initialized RL, Cond.codeWith yL_payIn cL_payIn 5 (some .int) [(0, 10, 13, 13), (0, 10, 17, 15)], Cond.classLink RL 13 "java/lang/IndexOutOfBoundsException", Cond.classLink RL 15 "java/lang/IllegalArgumentException", Cond.methodLink RL 7 yX2_payIn, Cond.instanceMethod yX2_payIn, Cond.selects RX2 yX2_payIn yX2_payIn, Cond.code yX2_payIn cX2_payIn 3 (some .int), Cond.methodLink RX2 42 yX2_checkMember, Cond.static yX2_checkMember, Cond.code yX2_checkMember cX2_checkMember 1 none, Cond.classLink RX2 208 "java/lang/IndexOutOfBoundsException", Cond.initialized "java/lang/IndexOutOfBoundsException", Cond.methodLink RX2 46 yX2_checkAmount, Cond.static yX2_checkAmount, Cond.code yX2_checkAmount cX2_checkAmount 1 none, Cond.methodLink RX2 70 yX2_checkRange, Cond.static yX2_checkRange, Cond.code yX2_checkRange cX2_checkRange 3 none]
def wsL_law0_r4 : List Cond := [Cond.classLink RX2 126 "java/lang/IllegalArgumentException", Cond.initialized "java/lang/IllegalArgumentException", Cond.methodLink RX2 49 yX2_saveState, Cond.instanceMethod yX2_saveState, Cond.selects RX2 yX2_saveState yX2_saveState, Cond.code yX2_saveState cX2_saveState 1 none, Cond.fieldLink RX2 143 "PledgedLoans" "savedStates" "I", Cond.methodLink RX2 219 yX2_dropOldest, Cond.instanceMethod yX2_dropOldest, Cond.selects RX2 yX2_dropOldest yX2_dropOldest, Cond.code yX2_dropOldest cX2_dropOldest 3 none, Cond.methodLink RX2 134 yX0_copyFrom, Cond.instanceMethod yX0_copyFrom, Cond.selects RX0 yX0_copyFrom yX0_copyFrom, Cond.code yX0_copyFrom cX0_copyFrom 2 none, Cond.fieldLink RX0 40 "PledgedLoans$Books" "till" "I", Cond.fieldLink RX0 44 "PledgedLoans$Books" "surplus" "I", Cond.fieldLink RX0 47 "PledgedLoans$Books" "loansGiven" "I", Cond.fieldLink RX0 50 "PledgedLoans$Books" "loansFallenDue" "I", Cond.fieldLink RX0 53 "PledgedLoans$Books" "weeksEnded" "I", Cond.fieldLink RX0 56 "PledgedLoans$Books" "day" "I", Cond.fieldLink RX0 59 "PledgedLoans$Books" "refused" "I", Cond.fieldLink RX0 62 "PledgedLoans$Books" "dividendsPaid" "I", Cond.methodLink RX0 36 yX0_copyRow]
def wsL_law0_r5 : List Cond := [Cond.static yX0_copyRow, Cond.code yX0_copyRow cX0_copyRow 2 none, Cond.methodLink RX0 65 Lib.Math.min.name, Cond.static Lib.Math.min.name, Cond.initialized "java/lang/Math", Cond.code Lib.Math.min.name Lib.Math.min.code 2 (some .int), Cond.methodLink RX0 71 arraycopyName, Cond.native arraycopyName, Cond.static arraycopyName, Cond.initialized "java/lang/System", Cond.methodLink RX2 52 yX0_takeIn, Cond.instanceMethod yX0_takeIn, Cond.selects RX0 yX0_takeIn yX0_takeIn, Cond.code yX0_takeIn cX0_takeIn 4 (some .int), Cond.constant RX0 100 (90000), Cond.methodLink RL 97 yX3_payIn, Cond.instanceMethod yX3_payIn, Cond.selects RX3 yX3_payIn yX3_payIn, Cond.code yX3_payIn cX3_payIn 3 (some .int), Cond.methodLink RX3 97 yX3_isDeed, Cond.instanceMethod yX3_isDeed, Cond.selects RX3 yX3_isDeed yX3_isDeed, Cond.code yX3_isDeed cX3_isDeed 3 (some .boolean), Cond.methodLink RX3 87 yX3_isMember]
def wsL_law0_r6 : List Cond := [Cond.static yX3_isMember, Cond.code yX3_isMember cX3_isMember 1 (some .boolean), Cond.methodLink RX3 27 yX3_in, Cond.static yX3_in, Cond.code yX3_in cX3_in 3 (some .boolean), Cond.methodLink RX3 91 yX3_isAmount, Cond.static yX3_isAmount, Cond.code yX3_isAmount cX3_isAmount 1 (some .boolean), Cond.methodLink RX3 94 yX3_holds, Cond.instanceMethod yX3_holds, Cond.selects RX3 yX3_holds yX3_holds, Cond.code yX3_holds cX3_holds 2 (some .boolean), Cond.fieldLink RX3 23 "PledgedLoansModel" "thrown" "I", Cond.methodLink RX3 101 yX3_save, Cond.instanceMethod yX3_save, Cond.selects RX3 yX3_save yX3_save, Cond.code yX3_save cX3_save 2 none, Cond.fieldLink RX3 80 "PledgedLoansModel" "saved" "I", Cond.methodLink RX3 83 yX3_copies, Cond.instanceMethod yX3_copies, Cond.selects RX3 yX3_copies yX3_copies, Cond.code yX3_copies cX3_copies 4 none, Cond.methodLink RX3 104 yX3_paysIn, Cond.instanceMethod yX3_paysIn]
def wsL_law0_r7 : List Cond := [Cond.selects RX3 yX3_paysIn yX3_paysIn, Cond.code yX3_paysIn cX3_paysIn 3 (some .int), Cond.constant RX3 54 (90000), Cond.methodLink RX3 35 yX3_of, Cond.instanceMethod yX3_of, Cond.selects RX3 yX3_of yX3_of, Cond.code yX3_of cX3_of 3 (some .int), Cond.methodLink RX3 55 yX3_refuses, Cond.instanceMethod yX3_refuses, Cond.selects RX3 yX3_refuses yX3_refuses, Cond.code yX3_refuses cX3_refuses 2 (some .int), Cond.methodLink RX3 58 yX3_adds, Cond.instanceMethod yX3_adds, Cond.selects RX3 yX3_adds yX3_adds, Cond.code yX3_adds cX3_adds 4 none, Cond.methodLink RL 98 yX3_thrown, Cond.instanceMethod yX3_thrown, Cond.selects RX3 yX3_thrown yX3_thrown, Cond.code yX3_thrown cX3_thrown 1 (some .int), Cond.methodLink RL 101 yL_payOut, Cond.static yL_payOut, Cond.codeWith yL_payOut cL_payOut 5 (some .int) [(0, 10, 13, 13), (0, 10, 17, 15)], Cond.methodLink RL 17 yX2_payOut, Cond.instanceMethod yX2_payOut]
def wsL_law0_r8 : List Cond := [Cond.selects RX2 yX2_payOut yX2_payOut, Cond.code yX2_payOut cX2_payOut 3 (some .int), Cond.methodLink RX2 56 yX0_giveOut, Cond.instanceMethod yX0_giveOut, Cond.selects RX0 yX0_giveOut yX0_giveOut, Cond.code yX0_giveOut cX0_giveOut 3 (some .int), Cond.methodLink RX0 97 yX0_freeShares, Cond.instanceMethod yX0_freeShares, Cond.selects RX0 yX0_freeShares yX0_freeShares, Cond.code yX0_freeShares cX0_freeShares 2 (some .int), Cond.methodLink RX0 91 Lib.Math.max.name, Cond.static Lib.Math.max.name, Cond.code Lib.Math.max.name Lib.Math.max.code 2 (some .int), Cond.methodLink RX0 85 yX0_ownLeft, Cond.instanceMethod yX0_ownLeft, Cond.selects RX0 yX0_ownLeft yX0_ownLeft, Cond.code yX0_ownLeft cX0_ownLeft 2 (some .int), Cond.methodLink RX0 81 yX0_pledgedBy, Cond.instanceMethod yX0_pledgedBy, Cond.selects RX0 yX0_pledgedBy yX0_pledgedBy, Cond.code yX0_pledgedBy cX0_pledgedBy 5 (some .int), Cond.methodLink RX0 88 yX0_pledgedFor, Cond.instanceMethod yX0_pledgedFor, Cond.selects RX0 yX0_pledgedFor yX0_pledgedFor]
def wsL_law0_r9 : List Cond := [Cond.code yX0_pledgedFor cX0_pledgedFor 4 (some .int), Cond.methodLink RL 103 yX3_payOut, Cond.instanceMethod yX3_payOut, Cond.selects RX3 yX3_payOut yX3_payOut, Cond.code yX3_payOut cX3_payOut 3 (some .int), Cond.methodLink RX3 107 yX3_paysOut, Cond.instanceMethod yX3_paysOut, Cond.selects RX3 yX3_paysOut yX3_paysOut, Cond.code yX3_paysOut cX3_paysOut 3 (some .int), Cond.methodLink RX3 62 yX3_free, Cond.instanceMethod yX3_free, Cond.selects RX3 yX3_free yX3_free, Cond.code yX3_free cX3_free 3 (some .int), Cond.methodLink RX3 45 yX3_pledgedFor, Cond.instanceMethod yX3_pledgedFor, Cond.selects RX3 yX3_pledgedFor yX3_pledgedFor, Cond.code yX3_pledgedFor cX3_pledgedFor 4 (some .int), Cond.methodLink RX3 31 yX3_pledgeOf, Cond.instanceMethod yX3_pledgeOf, Cond.selects RX3 yX3_pledgeOf yX3_pledgeOf, Cond.code yX3_pledgeOf cX3_pledgeOf 3 (some .int), Cond.methodLink RX3 42 yX3_own, Cond.instanceMethod yX3_own, Cond.selects RX3 yX3_own yX3_own]
def wsL_law0_r10 : List Cond := [Cond.code yX3_own cX3_own 2 (some .int), Cond.methodLink RX3 38 yX3_pledgedBy, Cond.instanceMethod yX3_pledgedBy, Cond.selects RX3 yX3_pledgedBy yX3_pledgedBy, Cond.code yX3_pledgedBy cX3_pledgedBy 4 (some .int), Cond.methodLink RL 104 yL_pledge, Cond.static yL_pledge, Cond.codeWith yL_pledge cL_pledge 6 (some .int) [(0, 12, 15, 13), (0, 12, 19, 15)], Cond.methodLink RL 20 yX2_pledge, Cond.instanceMethod yX2_pledge, Cond.selects RX2 yX2_pledge yX2_pledge, Cond.code yX2_pledge cX2_pledge 4 (some .int), Cond.methodLink RX2 59 yX2_checkPair, Cond.static yX2_checkPair, Cond.code yX2_checkPair cX2_checkPair 2 none, Cond.methodLink RX2 63 yX0_addPledge, Cond.instanceMethod yX0_addPledge, Cond.selects RX0 yX0_addPledge yX0_addPledge, Cond.code yX0_addPledge cX0_addPledge 5 (some .int), Cond.methodLink RX0 101 yX0_place, Cond.static yX0_place, Cond.code yX0_place cX0_place 2 (some .int), Cond.methodLink RL 107 yX3_pledge, Cond.instanceMethod yX3_pledge]
def wsL_law0_r11 : List Cond := [Cond.selects RX3 yX3_pledge yX3_pledge, Cond.code yX3_pledge cX3_pledge 4 (some .int), Cond.methodLink RX3 110 yX3_isPair, Cond.instanceMethod yX3_isPair, Cond.selects RX3 yX3_isPair yX3_isPair, Cond.code yX3_isPair cX3_isPair 5 (some .boolean), Cond.methodLink RX3 113 yX3_pledges, Cond.instanceMethod yX3_pledges, Cond.selects RX3 yX3_pledges yX3_pledges, Cond.code yX3_pledges cX3_pledges 4 (some .int), Cond.methodLink RL 108 yL_unpledge, Cond.static yL_unpledge, Cond.codeWith yL_unpledge cL_unpledge 6 (some .int) [(0, 12, 15, 13), (0, 12, 19, 15)], Cond.methodLink RL 24 yX2_unpledge, Cond.instanceMethod yX2_unpledge, Cond.selects RX2 yX2_unpledge yX2_unpledge, Cond.code yX2_unpledge cX2_unpledge 4 (some .int), Cond.methodLink RX2 67 yX0_dropPledge, Cond.instanceMethod yX0_dropPledge, Cond.selects RX0 yX0_dropPledge yX0_dropPledge, Cond.code yX0_dropPledge cX0_dropPledge 5 (some .int), Cond.methodLink RX0 94 yX0_cover, Cond.instanceMethod yX0_cover, Cond.selects RX0 yX0_cover yX0_cover]
def wsL_law0_r12 : List Cond := [Cond.code yX0_cover cX0_cover 2 (some .int), Cond.methodLink RL 110 yX3_unpledge, Cond.instanceMethod yX3_unpledge, Cond.selects RX3 yX3_unpledge yX3_unpledge, Cond.code yX3_unpledge cX3_unpledge 4 (some .int), Cond.methodLink RX3 116 yX3_takesBack, Cond.instanceMethod yX3_takesBack, Cond.selects RX3 yX3_takesBack yX3_takesBack, Cond.code yX3_takesBack cX3_takesBack 4 (some .int), Cond.methodLink RX3 48 yX3_cover, Cond.instanceMethod yX3_cover, Cond.selects RX3 yX3_cover yX3_cover, Cond.code yX3_cover cX3_cover 2 (some .int), Cond.methodLink RL 111 yL_borrow, Cond.static yL_borrow, Cond.codeWith yL_borrow cL_borrow 6 (some .int) [(0, 12, 15, 13), (0, 12, 19, 15)], Cond.methodLink RL 27 yX2_borrow, Cond.instanceMethod yX2_borrow, Cond.selects RX2 yX2_borrow yX2_borrow, Cond.code yX2_borrow cX2_borrow 4 (some .int), Cond.methodLink RX2 74 yX0_lend, Cond.instanceMethod yX0_lend, Cond.selects RX0 yX0_lend yX0_lend, Cond.code yX0_lend cX0_lend 6 (some .int)]
def wsL_law0_r13 : List Cond := [Cond.methodLink RX0 114 yX0_whyNoLoan, Cond.instanceMethod yX0_whyNoLoan, Cond.selects RX0 yX0_whyNoLoan yX0_whyNoLoan, Cond.code yX0_whyNoLoan cX0_whyNoLoan 3 (some .int), Cond.methodLink RX0 77 yX0_hasLoan, Cond.instanceMethod yX0_hasLoan, Cond.selects RX0 yX0_hasLoan yX0_hasLoan, Cond.code yX0_hasLoan cX0_hasLoan 2 (some .boolean), Cond.methodLink RX0 104 yX0_threefold, Cond.instanceMethod yX0_threefold, Cond.selects RX0 yX0_threefold yX0_threefold, Cond.code yX0_threefold cX0_threefold 2 (some .int), Cond.methodLink RX0 107 yX0_whyAbove, Cond.instanceMethod yX0_whyAbove, Cond.selects RX0 yX0_whyAbove yX0_whyAbove, Cond.code yX0_whyAbove cX0_whyAbove 4 (some .int), Cond.methodLink RX0 111 yX0_feeOf, Cond.instanceMethod yX0_feeOf, Cond.selects RX0 yX0_feeOf yX0_feeOf, Cond.code yX0_feeOf cX0_feeOf 2 (some .int), Cond.methodLink RL 113 yX3_borrow, Cond.instanceMethod yX3_borrow, Cond.selects RX3 yX3_borrow yX3_borrow, Cond.code yX3_borrow cX3_borrow 5 (some .int)]
def wsL_law0_r14 : List Cond := [Cond.methodLink RX3 119 yX3_lends, Cond.instanceMethod yX3_lends, Cond.selects RX3 yX3_lends yX3_lends, Cond.code yX3_lends cX3_lends 6 (some .int), Cond.methodLink RX3 65 yX3_reason, Cond.instanceMethod yX3_reason, Cond.selects RX3 yX3_reason yX3_reason, Cond.code yX3_reason cX3_reason 3 (some .int), Cond.methodLink RX3 51 yX3_fee, Cond.static yX3_fee, Cond.code yX3_fee cX3_fee 2 (some .int), Cond.methodLink RL 114 yL_repay, Cond.static yL_repay, Cond.codeWith yL_repay cL_repay 5 (some .int) [(0, 10, 13, 13), (0, 10, 17, 15)], Cond.methodLink RL 30 yX2_repay, Cond.instanceMethod yX2_repay, Cond.selects RX2 yX2_repay yX2_repay, Cond.code yX2_repay cX2_repay 3 (some .int), Cond.methodLink RX2 77 yX0_takeBack, Cond.instanceMethod yX0_takeBack, Cond.selects RX0 yX0_takeBack yX0_takeBack, Cond.code yX0_takeBack cX0_takeBack 3 (some .int), Cond.methodLink RL 116 yX3_repay, Cond.instanceMethod yX3_repay]
def wsL_law0_r15 : List Cond := [Cond.selects RX3 yX3_repay yX3_repay, Cond.code yX3_repay cX3_repay 3 (some .int), Cond.methodLink RX3 122 yX3_repays, Cond.instanceMethod yX3_repays, Cond.selects RX3 yX3_repays yX3_repays, Cond.code yX3_repays cX3_repays 3 (some .int), Cond.methodLink RL 117 yL_week, Cond.static yL_week, Cond.codeWith yL_week cL_week 3 (some .int) [(0, 8, 11, 37)], Cond.classLink RL 37 "java/lang/IllegalStateException", Cond.methodLink RL 33 yX2_week, Cond.instanceMethod yX2_week, Cond.selects RX2 yX2_week yX2_week, Cond.code yX2_week cX2_week 1 (some .int), Cond.classLink RX2 84 "java/lang/IllegalStateException", Cond.initialized "java/lang/IllegalStateException", Cond.methodLink RX2 80 yX0_canEndWeek, Cond.instanceMethod yX0_canEndWeek, Cond.selects RX0 yX0_canEndWeek yX0_canEndWeek, Cond.code yX0_canEndWeek cX0_canEndWeek 1 (some .boolean), Cond.methodLink RX2 91 yX0_endWeek, Cond.instanceMethod yX0_endWeek, Cond.selects RX0 yX0_endWeek yX0_endWeek, Cond.code yX0_endWeek cX0_endWeek 3 (some .int)]
def wsL_law0_r16 : List Cond := [Cond.methodLink RX0 124 yX0_endWeekOf, Cond.instanceMethod yX0_endWeekOf, Cond.selects RX0 yX0_endWeekOf yX0_endWeekOf, Cond.code yX0_endWeekOf cX0_endWeekOf 2 (some .boolean), Cond.methodLink RX0 127 yX0_takeDue, Cond.instanceMethod yX0_takeDue, Cond.selects RX0 yX0_takeDue yX0_takeDue, Cond.code yX0_takeDue cX0_takeDue 7 none, Cond.methodLink RL 120 yX3_week, Cond.instanceMethod yX3_week, Cond.selects RX3 yX3_week yX3_week, Cond.code yX3_week cX3_week 1 (some .int), Cond.methodLink RX3 125 yX3_endsWeek, Cond.instanceMethod yX3_endsWeek, Cond.selects RX3 yX3_endsWeek yX3_endsWeek, Cond.code yX3_endsWeek cX3_endsWeek 4 (some .int), Cond.methodLink RX3 72 yX3_fallsDue, Cond.instanceMethod yX3_fallsDue, Cond.selects RX3 yX3_fallsDue yX3_fallsDue, Cond.code yX3_fallsDue cX3_fallsDue 3 none, Cond.methodLink RX3 68 yX3_takes, Cond.instanceMethod yX3_takes, Cond.selects RX3 yX3_takes yX3_takes, Cond.code yX3_takes cX3_takes 5 (some .int)]
def wsL_law0_r17 : List Cond := [Cond.methodLink RL 121 yL_pass, Cond.static yL_pass, Cond.codeWith yL_pass cL_pass 4 (some .int) [(0, 9, 12, 15), (0, 9, 15, 37)], Cond.methodLink RL 39 yX2_pass, Cond.instanceMethod yX2_pass, Cond.selects RX2 yX2_pass yX2_pass, Cond.code yX2_pass cX2_pass 2 (some .int), Cond.methodLink RX2 95 yX0_canAddDays, Cond.instanceMethod yX0_canAddDays, Cond.selects RX0 yX0_canAddDays yX0_canAddDays, Cond.code yX0_canAddDays cX0_canAddDays 3 (some .boolean), Cond.constantLong RX0 131 (100000000), Cond.methodLink RX2 101 yX0_addDays, Cond.instanceMethod yX0_addDays, Cond.selects RX0 yX0_addDays yX0_addDays, Cond.code yX0_addDays cX0_addDays 3 (some .int), Cond.methodLink RL 124 yX3_pass, Cond.instanceMethod yX3_pass, Cond.selects RX3 yX3_pass yX3_pass, Cond.code yX3_pass cX3_pass 4 (some .int), Cond.constantLong RX3 129 (100000000), Cond.methodLink RL 125 yX2_dividend, Cond.instanceMethod yX2_dividend, Cond.selects RX2 yX2_dividend yX2_dividend]
def wsL_law0_r18 : List Cond := [Cond.code yX2_dividend cX2_dividend 1 (some .int), Cond.methodLink RX2 105 yX0_shareOut, Cond.instanceMethod yX0_shareOut, Cond.selects RX0 yX0_shareOut yX0_shareOut, Cond.code yX0_shareOut cX0_shareOut 6 (some .int), Cond.methodLink RX0 133 yX0_allShareDays, Cond.instanceMethod yX0_allShareDays, Cond.selects RX0 yX0_allShareDays yX0_allShareDays, Cond.code yX0_allShareDays cX0_allShareDays 7 (some .long), Cond.methodLink RX0 137 yX0_dividendOf, Cond.instanceMethod yX0_dividendOf, Cond.selects RX0 yX0_dividendOf yX0_dividendOf, Cond.code yX0_dividendOf cX0_dividendOf 4 (some .int), Cond.methodLink RL 128 yX3_dividend, Cond.instanceMethod yX3_dividend, Cond.selects RX3 yX3_dividend yX3_dividend, Cond.code yX3_dividend cX3_dividend 3 (some .int), Cond.methodLink RX3 76 yX3_allDays, Cond.instanceMethod yX3_allDays, Cond.selects RX3 yX3_allDays yX3_allDays, Cond.code yX3_allDays cX3_allDays 4 (some .long), Cond.methodLink RX3 131 yX3_share, Cond.instanceMethod yX3_share, Cond.selects RX3 yX3_share yX3_share]
def wsL_law0_r19 : List Cond := [Cond.code yX3_share cX3_share 4 (some .int), Cond.methodLink RL 129 yL_set, Cond.static yL_set, Cond.codeWith yL_set cL_set 5 (some .int) [(0, 10, 13, 13), (0, 10, 17, 15)], Cond.methodLink RL 43 yX2_set, Cond.instanceMethod yX2_set, Cond.selects RX2 yX2_set yX2_set, Cond.code yX2_set cX2_set 4 (some .int), Cond.fieldLink RX2 111 "PledgedLoans$Books" "settings" "[I", Cond.methodLink RX2 108 yX2_checkSetting, Cond.static yX2_checkSetting, Cond.code yX2_checkSetting cX2_checkSetting 1 none, Cond.methodLink RL 131 yX3_set, Cond.instanceMethod yX3_set, Cond.selects RX3 yX3_set yX3_set, Cond.code yX3_set cX3_set 4 (some .int), Cond.methodLink RL 132 yL_append, Cond.static yL_append, Cond.codeWith yL_append cL_append 4 (some .int) [(0, 9, 12, 15), (0, 9, 15, 37)], Cond.methodLink RL 46 yX2_append, Cond.instanceMethod yX2_append, Cond.selects RX2 yX2_append yX2_append, Cond.code yX2_append cX2_append 2 (some .int), Cond.fieldLink RX2 114 "PledgedLoans" "bufferLength" "I"]
def wsL_law0_r20 : List Cond := [Cond.methodLink RL 134 yX3_append, Cond.instanceMethod yX3_append, Cond.selects RX3 yX3_append yX3_append, Cond.code yX3_append cX3_append 2 (some .int), Cond.fieldLink RX3 134 "PledgedLoansModel" "length" "I", Cond.methodLink RL 135 yX2_clearBuffer, Cond.instanceMethod yX2_clearBuffer, Cond.selects RX2 yX2_clearBuffer yX2_clearBuffer, Cond.code yX2_clearBuffer cX2_clearBuffer 2 (some .int), Cond.methodLink RL 138 yX3_clearBuffer, Cond.instanceMethod yX3_clearBuffer, Cond.selects RX3 yX3_clearBuffer yX3_clearBuffer, Cond.code yX3_clearBuffer cX3_clearBuffer 2 (some .int), Cond.methodLink RL 139 yX2_firstError, Cond.instanceMethod yX2_firstError, Cond.selects RX2 yX2_firstError yX2_firstError, Cond.code yX2_firstError cX2_firstError 1 (some .int), Cond.methodLink RX2 120 yX2_readToError, Cond.instanceMethod yX2_readToError, Cond.selects RX2 yX2_readToError yX2_readToError, Cond.code yX2_readToError cX2_readToError 2 (some .int), Cond.methodLink RX2 222 yX1_restart, Cond.instanceMethod yX1_restart, Cond.selects RX1 yX1_restart yX1_restart]
def wsL_law0_r21 : List Cond := [Cond.code yX1_restart cX1_restart 1 none, Cond.fieldLink RX1 11 "PledgedLoans$OrderReader" "stage" "I", Cond.fieldLink RX1 15 "PledgedLoans$OrderReader" "kind" "C", Cond.fieldLink RX1 19 "PledgedLoans$OrderReader" "amount" "I", Cond.fieldLink RX1 22 "PledgedLoans$OrderReader" "weeks" "I", Cond.methodLink RX2 225 yX1_take, Cond.instanceMethod yX1_take, Cond.selects RX1 yX1_take yX1_take, Cond.code yX1_take cX1_take 2 (some .boolean), Cond.methodLink RX1 25 yX1_takeEnd, Cond.instanceMethod yX1_takeEnd, Cond.selects RX1 yX1_takeEnd yX1_takeEnd, Cond.code yX1_takeEnd cX1_takeEnd 1 (some .boolean), Cond.methodLink RX1 49 yX1_isWhole, Cond.instanceMethod yX1_isWhole, Cond.selects RX1 yX1_isWhole yX1_isWhole, Cond.code yX1_isWhole cX1_isWhole 1 (some .boolean), Cond.methodLink RX1 52 yX1_restart, Cond.methodLink RX1 29 yX1_takeKind, Cond.instanceMethod yX1_takeKind, Cond.selects RX1 yX1_takeKind yX1_takeKind, Cond.code yX1_takeKind cX1_takeKind 2 (some .boolean), Cond.methodLink RX1 33 yX1_takeMember, Cond.instanceMethod yX1_takeMember]
def wsL_law0_r22 : List Cond := [Cond.selects RX1 yX1_takeMember yX1_takeMember, Cond.code yX1_takeMember cX1_takeMember 2 (some .boolean), Cond.fieldLink RX1 58 "PledgedLoans$OrderReader" "member" "I", Cond.methodLink RX1 55 yX1_isMember, Cond.static yX1_isMember, Cond.code yX1_isMember cX1_isMember 1 (some .boolean), Cond.methodLink RX1 36 yX1_takeMark, Cond.instanceMethod yX1_takeMark, Cond.selects RX1 yX1_takeMark yX1_takeMark, Cond.code yX1_takeMark cX1_takeMark 4 (some .boolean), Cond.methodLink RX1 40 yX1_takeBorrower, Cond.instanceMethod yX1_takeBorrower, Cond.selects RX1 yX1_takeBorrower yX1_takeBorrower, Cond.code yX1_takeBorrower cX1_takeBorrower 2 (some .boolean), Cond.fieldLink RX1 61 "PledgedLoans$OrderReader" "borrower" "I", Cond.methodLink RX1 43 yX1_takeAmount, Cond.instanceMethod yX1_takeAmount, Cond.selects RX1 yX1_takeAmount yX1_takeAmount, Cond.code yX1_takeAmount cX1_takeAmount 3 (some .boolean), Cond.methodLink RX1 64 yX1_longer, Cond.static yX1_longer, Cond.code yX1_longer cX1_longer 4 (some .int), Cond.methodLink RX1 46 yX1_takeWeeks, Cond.instanceMethod yX1_takeWeeks]
def wsL_law0_r23 : List Cond := [Cond.selects RX1 yX1_takeWeeks yX1_takeWeeks, Cond.code yX1_takeWeeks cX1_takeWeeks 3 (some .boolean), Cond.methodLink RL 142 yX3_firstError, Cond.instanceMethod yX3_firstError, Cond.selects RX3 yX3_firstError yX3_firstError, Cond.code yX3_firstError cX3_firstError 1 (some .int), Cond.fieldLink RX3 137 "PledgedLoansModel" "at" "I", Cond.methodLink RX3 171 yX3_areOrders, Cond.instanceMethod yX3_areOrders, Cond.selects RX3 yX3_areOrders yX3_areOrders, Cond.code yX3_areOrders cX3_areOrders 1 (some .boolean), Cond.methodLink RX3 167 yX3_readsOrder, Cond.instanceMethod yX3_readsOrder, Cond.selects RX3 yX3_readsOrder yX3_readsOrder, Cond.code yX3_readsOrder cX3_readsOrder 1 (some .boolean), Cond.fieldLink RX3 143 "PledgedLoansModel" "order" "I", Cond.fieldLink RX3 152 "PledgedLoansModel" "first" "I", Cond.fieldLink RX3 155 "PledgedLoansModel" "second" "I", Cond.fieldLink RX3 161 "PledgedLoansModel" "amount" "I", Cond.fieldLink RX3 164 "PledgedLoansModel" "weeks" "I", Cond.methodLink RX3 140 yX3_sign, Cond.instanceMethod yX3_sign, Cond.selects RX3 yX3_sign yX3_sign, Cond.code yX3_sign cX3_sign 1 (some .int)]
def wsL_law0_r24 : List Cond := [Cond.methodLink RX3 146 yX3_takesSign, Cond.instanceMethod yX3_takesSign, Cond.selects RX3 yX3_takesSign yX3_takesSign, Cond.code yX3_takesSign cX3_takesSign 3 (some .boolean), Cond.methodLink RX3 149 yX3_readsMember, Cond.instanceMethod yX3_readsMember, Cond.selects RX3 yX3_readsMember yX3_readsMember, Cond.code yX3_readsMember cX3_readsMember 3 (some .int), Cond.methodLink RX3 158 yX3_readsNumber, Cond.instanceMethod yX3_readsNumber, Cond.selects RX3 yX3_readsNumber yX3_readsNumber, Cond.code yX3_readsNumber cX3_readsNumber 3 (some .int), Cond.methodLink RL 143 yL_run, Cond.static yL_run, Cond.codeWith yL_run cL_run 3 (some .int) [(0, 8, 11, 15)], Cond.methodLink RL 49 yX2_run, Cond.instanceMethod yX2_run, Cond.selects RX2 yX2_run yX2_run, Cond.code yX2_run cX2_run 2 (some .int), Cond.methodLink RX2 123 yX1_isWhole, Cond.methodLink RX2 131 yX2_doOrders, Cond.instanceMethod yX2_doOrders, Cond.selects RX2 yX2_doOrders yX2_doOrders, Cond.code yX2_doOrders cX2_doOrders 3 (some .int)]
def wsL_law0_r25 : List Cond := [Cond.methodLink RX2 229 yX2_doOrder, Cond.instanceMethod yX2_doOrder, Cond.selects RX2 yX2_doOrder yX2_doOrder, Cond.code yX2_doOrder cX2_doOrder 1 (some .boolean), Cond.fieldLink RX2 232 "PledgedLoans$OrderReader" "kind" "C", Cond.fieldLink RX2 236 "PledgedLoans$OrderReader" "member" "I", Cond.fieldLink RX2 239 "PledgedLoans$OrderReader" "amount" "I", Cond.fieldLink RX2 242 "PledgedLoans$OrderReader" "borrower" "I", Cond.fieldLink RX2 245 "PledgedLoans$OrderReader" "weeks" "I", Cond.methodLink RL 145 yX3_run, Cond.instanceMethod yX3_run, Cond.selects RX3 yX3_run yX3_run, Cond.code yX3_run cX3_run 4 (some .int), Cond.methodLink RX3 174 yX3_does, Cond.instanceMethod yX3_does, Cond.selects RX3 yX3_does yX3_does, Cond.code yX3_does cX3_does 1 none, Cond.methodLink RL 146 yL_keep, Cond.static yL_keep, Cond.codeWith yL_keep cL_keep 4 (some .int) [(0, 9, 12, 15)], Cond.methodLink RL 52 yX2_keep, Cond.instanceMethod yX2_keep, Cond.selects RX2 yX2_keep yX2_keep, Cond.code yX2_keep cX2_keep 2 (some .int)]
def wsL_law0_r26 : List Cond := [Cond.methodLink RX2 138 yX0_loans, Cond.instanceMethod yX0_loans, Cond.selects RX0 yX0_loans yX0_loans, Cond.code yX0_loans cX0_loans 3 (some .int), Cond.methodLink RL 148 yX3_keep, Cond.instanceMethod yX3_keep, Cond.selects RX3 yX3_keep yX3_keep, Cond.code yX3_keep cX3_keep 2 (some .int), Cond.methodLink RX3 177 yX3_loans, Cond.instanceMethod yX3_loans, Cond.selects RX3 yX3_loans yX3_loans, Cond.code yX3_loans cX3_loans 3 (some .int), Cond.methodLink RL 149 yL_goBack, Cond.static yL_goBack, Cond.codeWith yL_goBack cL_goBack 4 (some .int) [(0, 9, 12, 15), (0, 9, 15, 37)], Cond.methodLink RL 55 yX2_goBack, Cond.instanceMethod yX2_goBack, Cond.selects RX2 yX2_goBack yX2_goBack, Cond.code yX2_goBack cX2_goBack 2 (some .int), Cond.methodLink RL 151 yX3_goBack, Cond.instanceMethod yX3_goBack, Cond.selects RX3 yX3_goBack yX3_goBack, Cond.code yX3_goBack cX3_goBack 2 (some .int), Cond.methodLink RL 152 yL_undo]
def wsL_law0_r27 : List Cond := [Cond.static yL_undo, Cond.codeWith yL_undo cL_undo 3 (some .int) [(0, 8, 11, 37)], Cond.methodLink RL 58 yX2_undo, Cond.instanceMethod yX2_undo, Cond.selects RX2 yX2_undo yX2_undo, Cond.code yX2_undo cX2_undo 1 (some .int), Cond.methodLink RL 154 yX3_undo, Cond.instanceMethod yX3_undo, Cond.selects RX3 yX3_undo yX3_undo, Cond.code yX3_undo cX3_undo 1 (some .int), Cond.methodLink RL 155 yL_memberOf, Cond.static yL_memberOf, Cond.codeWith yL_memberOf cL_memberOf 5 (some .int) [(0, 10, 13, 13), (0, 10, 17, 15)], Cond.methodLink RL 61 yX2_memberOf, Cond.instanceMethod yX2_memberOf, Cond.selects RX2 yX2_memberOf yX2_memberOf, Cond.code yX2_memberOf cX2_memberOf 3 (some .int), Cond.methodLink RX2 148 yX0_property, Cond.instanceMethod yX0_property, Cond.selects RX0 yX0_property yX0_property, Cond.code yX0_property cX0_property 3 (some .int), Cond.methodLink RL 157 yX3_memberOf, Cond.instanceMethod yX3_memberOf, Cond.selects RX3 yX3_memberOf yX3_memberOf]
def wsL_law0_r28 : List Cond := [Cond.code yX3_memberOf cX3_memberOf 3 (some .int), Cond.methodLink RX3 180 yX3_property, Cond.instanceMethod yX3_property, Cond.selects RX3 yX3_property yX3_property, Cond.code yX3_property cX3_property 3 (some .int), Cond.methodLink RL 158 yL_pledged, Cond.static yL_pledged, Cond.codeWith yL_pledged cL_pledged 5 (some .int) [(0, 10, 13, 13)], Cond.methodLink RL 64 yX2_pledged, Cond.instanceMethod yX2_pledged, Cond.selects RX2 yX2_pledged yX2_pledged, Cond.code yX2_pledged cX2_pledged 3 (some .int), Cond.fieldLink RX2 151 "PledgedLoans$Books" "pledges" "[I", Cond.methodLink RX2 154 yX0_place, Cond.methodLink RL 160 yX3_pledged, Cond.instanceMethod yX3_pledged, Cond.selects RX3 yX3_pledged yX3_pledged, Cond.code yX3_pledged cX3_pledged 3 (some .int), Cond.methodLink RL 161 yL_count, Cond.static yL_count, Cond.codeWith yL_count cL_count 4 (some .int) [(0, 9, 12, 15)], Cond.methodLink RL 67 yX2_count, Cond.instanceMethod yX2_count, Cond.selects RX2 yX2_count yX2_count]
def wsL_law0_r29 : List Cond := [Cond.code yX2_count cX2_count 2 (some .int), Cond.methodLink RX2 157 yX2_number, Cond.instanceMethod yX2_number, Cond.selects RX2 yX2_number yX2_number, Cond.code yX2_number cX2_number 2 (some .int), Cond.fieldLink RX2 248 "PledgedLoans$Books" "till" "I", Cond.fieldLink RX2 251 "PledgedLoans$Books" "surplus" "I", Cond.fieldLink RX2 260 "PledgedLoans$Books" "loansGiven" "I", Cond.fieldLink RX2 263 "PledgedLoans$Books" "loansFallenDue" "I", Cond.fieldLink RX2 266 "PledgedLoans$Books" "weeksEnded" "I", Cond.fieldLink RX2 269 "PledgedLoans$Books" "day" "I", Cond.fieldLink RX2 272 "PledgedLoans$Books" "refused" "I", Cond.fieldLink RX2 275 "PledgedLoans$Books" "dividendsPaid" "I", Cond.methodLink RX2 254 yX0_allShares, Cond.instanceMethod yX0_allShares, Cond.selects RX0 yX0_allShares yX0_allShares, Cond.code yX0_allShares cX0_allShares 6 (some .int), Cond.methodLink RX2 257 yX0_allRests, Cond.instanceMethod yX0_allRests, Cond.selects RX0 yX0_allRests yX0_allRests, Cond.code yX0_allRests cX0_allRests 6 (some .int), Cond.methodLink RL 163 yX3_count, Cond.instanceMethod yX3_count, Cond.selects RX3 yX3_count yX3_count]
def wsL_law0_r30 : List Cond := [Cond.code yX3_count cX3_count 2 (some .int), Cond.methodLink RX3 186 yX3_counted, Cond.instanceMethod yX3_counted, Cond.selects RX3 yX3_counted yX3_counted, Cond.code yX3_counted cX3_counted 2 (some .int), Cond.methodLink RX3 183 yX3_total, Cond.instanceMethod yX3_total, Cond.selects RX3 yX3_total yX3_total, Cond.code yX3_total cX3_total 4 (some .int), Cond.methodLink RL 164 yL_setting, Cond.static yL_setting, Cond.codeWith yL_setting cL_setting 4 (some .int) [(0, 9, 12, 13)], Cond.methodLink RL 70 yX2_setting, Cond.instanceMethod yX2_setting, Cond.selects RX2 yX2_setting yX2_setting, Cond.code yX2_setting cX2_setting 2 (some .int), Cond.methodLink RL 166 yX3_setting, Cond.instanceMethod yX3_setting, Cond.selects RX3 yX3_setting yX3_setting, Cond.code yX3_setting cX3_setting 2 (some .int), Cond.methodLink RL 167 yL_whyNot, Cond.static yL_whyNot, Cond.codeWith yL_whyNot cL_whyNot 5 (some .int) [(0, 10, 13, 13), (0, 10, 17, 15)], Cond.methodLink RL 73 yX2_whyNot]
def wsL_law0_r31 : List Cond := [Cond.instanceMethod yX2_whyNot, Cond.selects RX2 yX2_whyNot yX2_whyNot, Cond.code yX2_whyNot cX2_whyNot 3 (some .int), Cond.methodLink RX2 160 yX0_whyNoLoan, Cond.methodLink RL 169 yX3_whyNot, Cond.instanceMethod yX3_whyNot, Cond.selects RX3 yX3_whyNot yX3_whyNot, Cond.code yX3_whyNot cX3_whyNot 3 (some .int), Cond.methodLink RL 170 yL_greatest, Cond.static yL_greatest, Cond.codeWith yL_greatest cL_greatest 5 (some .int) [(0, 10, 13, 13), (0, 10, 17, 15)], Cond.methodLink RL 76 yX2_greatest, Cond.instanceMethod yX2_greatest, Cond.selects RX2 yX2_greatest yX2_greatest, Cond.code yX2_greatest cX2_greatest 3 (some .int), Cond.methodLink RX2 163 yX2_greatestByHalving, Cond.instanceMethod yX2_greatestByHalving, Cond.selects RX2 yX2_greatestByHalving yX2_greatestByHalving, Cond.code yX2_greatestByHalving cX2_greatestByHalving 5 (some .int), Cond.methodLink RX2 166 yX2_greatestByAll, Cond.instanceMethod yX2_greatestByAll, Cond.selects RX2 yX2_greatestByAll yX2_greatestByAll, Cond.code yX2_greatestByAll cX2_greatestByAll 5 (some .int), Cond.methodLink RX2 278 yX0_hasLoan]
def wsL_law0_r32 : List Cond := [Cond.methodLink RX2 281 yX0_threefold, Cond.methodLink RX2 284 yX0_cover, Cond.methodLink RX2 287 yX0_whyAbove, Cond.methodLink RL 172 yX3_greatest, Cond.instanceMethod yX3_greatest, Cond.selects RX3 yX3_greatest yX3_greatest, Cond.code yX3_greatest cX3_greatest 3 (some .int), Cond.methodLink RX3 189 yX3_most, Cond.instanceMethod yX3_most, Cond.selects RX3 yX3_most yX3_most, Cond.code yX3_most cX3_most 3 (some .int), Cond.methodLink RL 173 yL_guarantors, Cond.static yL_guarantors, Cond.codeWith yL_guarantors cL_guarantors 6 (some .int) [(0, 12, 15, 13), (0, 12, 19, 15)], Cond.methodLink RL 79 yX2_guarantors, Cond.instanceMethod yX2_guarantors, Cond.selects RX2 yX2_guarantors yX2_guarantors, Cond.code yX2_guarantors cX2_guarantors 4 (some .int), Cond.methodLink RX2 169 yX2_fewestByGreatest, Cond.instanceMethod yX2_fewestByGreatest, Cond.selects RX2 yX2_fewestByGreatest yX2_fewestByGreatest, Cond.code yX2_fewestByGreatest cX2_fewestByGreatest 7 (some .int), Cond.methodLink RX2 290 yX2_fillFree, Cond.instanceMethod yX2_fillFree]
def wsL_law0_r33 : List Cond := [Cond.selects RX2 yX2_fillFree yX2_fillFree, Cond.code yX2_fillFree cX2_fillFree 2 none, Cond.methodLink RX2 304 yX0_freeShares, Cond.methodLink RX2 293 yX2_freest, Cond.instanceMethod yX2_freest, Cond.selects RX2 yX2_freest yX2_freest, Cond.code yX2_freest cX2_freest 4 (some .int), Cond.methodLink RX2 172 yX2_fewestBySets, Cond.instanceMethod yX2_fewestBySets, Cond.selects RX2 yX2_fewestBySets yX2_fewestBySets, Cond.code yX2_fewestBySets cX2_fewestBySets 8 (some .int), Cond.methodLink RX2 296 yJ6_bitCount_0f7a4, Cond.static yJ6_bitCount_0f7a4, Cond.initialized RJ6, Cond.code yJ6_bitCount_0f7a4 cJ6_bitCount_0f7a4 1 (some .int), Cond.constant RJ6 265 (1431655765), Cond.constant RJ6 266 (858993459), Cond.constant RJ6 267 (252645135), Cond.methodLink RX2 301 yX2_freeOf, Cond.instanceMethod yX2_freeOf, Cond.selects RX2 yX2_freeOf yX2_freeOf, Cond.code yX2_freeOf cX2_freeOf 4 (some .int), Cond.methodLink RL 175 yX3_guarantors, Cond.instanceMethod yX3_guarantors]
def wsL_law0_r34 : List Cond := [Cond.selects RX3 yX3_guarantors yX3_guarantors, Cond.code yX3_guarantors cX3_guarantors 5 (some .int), Cond.methodLink RX3 192 yX3_fewest, Cond.instanceMethod yX3_fewest, Cond.selects RX3 yX3_fewest yX3_fewest, Cond.code yX3_fewest cX3_fewest 7 (some .int), Cond.methodLink RL 176 yL_weeksLeft, Cond.static yL_weeksLeft, Cond.codeWith yL_weeksLeft cL_weeksLeft 5 (some .int) [(0, 10, 13, 13), (0, 10, 17, 15)], Cond.methodLink RL 82 yX2_weeksLeft, Cond.instanceMethod yX2_weeksLeft, Cond.selects RX2 yX2_weeksLeft yX2_weeksLeft, Cond.code yX2_weeksLeft cX2_weeksLeft 3 (some .int), Cond.methodLink RX2 175 yX0_weeksByWeeks, Cond.instanceMethod yX0_weeksByWeeks, Cond.selects RX0 yX0_weeksByWeeks yX0_weeksByWeeks, Cond.code yX0_weeksByWeeks cX0_weeksByWeeks 4 (some .int), Cond.methodLink RX2 178 yX0_weeksAtOnce, Cond.instanceMethod yX0_weeksAtOnce, Cond.selects RX0 yX0_weeksAtOnce yX0_weeksAtOnce, Cond.code yX0_weeksAtOnce cX0_weeksAtOnce 3 (some .int), Cond.methodLink RL 178 yX3_weeksLeft, Cond.instanceMethod yX3_weeksLeft, Cond.selects RX3 yX3_weeksLeft yX3_weeksLeft]
def wsL_law0_r35 : List Cond := [Cond.code yX3_weeksLeft cX3_weeksLeft 3 (some .int), Cond.methodLink RX3 195 yX3_lasts, Cond.instanceMethod yX3_lasts, Cond.selects RX3 yX3_lasts yX3_lasts, Cond.code yX3_lasts cX3_lasts 3 (some .int), Cond.methodLink RL 179 yL_ifDivided, Cond.static yL_ifDivided, Cond.codeWith yL_ifDivided cL_ifDivided 4 (some .int) [(0, 9, 12, 13)], Cond.methodLink RL 85 yX2_ifDivided, Cond.instanceMethod yX2_ifDivided, Cond.selects RX2 yX2_ifDivided yX2_ifDivided, Cond.code yX2_ifDivided cX2_ifDivided 2 (some .int), Cond.methodLink RX2 181 yX0_allShareDays, Cond.methodLink RX2 185 yX0_dividendOf, Cond.methodLink RL 181 yX3_ifDivided, Cond.instanceMethod yX3_ifDivided, Cond.selects RX3 yX3_ifDivided yX3_ifDivided, Cond.code yX3_ifDivided cX3_ifDivided 2 (some .int), Cond.methodLink RL 182 yX2_riskiest, Cond.instanceMethod yX2_riskiest, Cond.selects RX2 yX2_riskiest yX2_riskiest, Cond.code yX2_riskiest cX2_riskiest 1 (some .int), Cond.methodLink RX2 189 yX0_mostAtStake, Cond.instanceMethod yX0_mostAtStake]
def wsL_law0_r36 : List Cond := [Cond.selects RX0 yX0_mostAtStake yX0_mostAtStake, Cond.code yX0_mostAtStake cX0_mostAtStake 5 (some .int), Cond.methodLink RL 185 yX3_riskiest, Cond.instanceMethod yX3_riskiest, Cond.selects RX3 yX3_riskiest yX3_riskiest, Cond.code yX3_riskiest cX3_riskiest 1 (some .int), Cond.methodLink RX3 198 yX3_risky, Cond.instanceMethod yX3_risky, Cond.selects RX3 yX3_risky yX3_risky, Cond.code yX3_risky cX3_risky 6 (some .int), Cond.methodLink RL 186 yX2_lentShare, Cond.instanceMethod yX2_lentShare, Cond.selects RX2 yX2_lentShare yX2_lentShare, Cond.code yX2_lentShare cX2_lentShare 1 (some .double), Cond.methodLink RX2 192 yX0_lentPart, Cond.instanceMethod yX0_lentPart, Cond.selects RX0 yX0_lentPart yX0_lentPart, Cond.code yX0_lentPart cX0_lentPart 2 (some .double), Cond.methodLink RX0 117 yX0_allShares, Cond.methodLink RX0 121 yX0_allRests, Cond.methodLink RL 190 yX3_lentShare, Cond.instanceMethod yX3_lentShare, Cond.selects RX3 yX3_lentShare yX3_lentShare, Cond.code yX3_lentShare cX3_lentShare 1 (some .double)]
def wsL_law0_r37 : List Cond := [Cond.methodLink RX3 201 yX3_lent, Cond.instanceMethod yX3_lent, Cond.selects RX3 yX3_lent yX3_lent, Cond.code yX3_lent cX3_lent 1 (some .double), Cond.methodLink RL 191 yX2_digest, Cond.instanceMethod yX2_digest, Cond.selects RX2 yX2_digest yX2_digest, Cond.code yX2_digest cX2_digest 4 (some .long), Cond.constantLong RX2 196 (3607), Cond.constantLong RX2 198 (31), Cond.methodLink RX2 200 yX2_digestOfMember, Cond.instanceMethod yX2_digestOfMember, Cond.selects RX2 yX2_digestOfMember yX2_digestOfMember, Cond.code yX2_digestOfMember cX2_digestOfMember 7 (some .long), Cond.methodLink RX2 204 yX2_bits, Cond.static yX2_bits, Cond.code yX2_bits cX2_bits 7 (some .long), Cond.constantDouble RX2 307 (4611686018427387904), Cond.constantDouble RX2 309 (4841369599423283200), Cond.methodLink RL 195 yX3_digest, Cond.instanceMethod yX3_digest, Cond.selects RX3 yX3_digest yX3_digest, Cond.code yX3_digest cX3_digest 2 (some .long), Cond.constantLong RX3 223 (3607)]
def wsL_law0_r38 : List Cond := [Cond.fieldLink RX3 207 "PledgedLoansModel" "hash" "J", Cond.methodLink RX3 219 yX3_mix, Cond.instanceMethod yX3_mix, Cond.selects RX3 yX3_mix yX3_mix, Cond.code yX3_mix cX3_mix 3 none, Cond.constantLong RX3 205 (31), Cond.methodLink RX3 225 yX3_mixMember, Cond.instanceMethod yX3_mixMember, Cond.selects RX3 yX3_mixMember yX3_mixMember, Cond.code yX3_mixMember cX3_mixMember 3 none, Cond.methodLink RX3 228 yX3_bits, Cond.static yX3_bits, Cond.code yX3_bits cX3_bits 6 (some .long), Cond.constantLong RX3 211 (1023), Cond.constantDouble RX3 213 (4611686018427387904), Cond.constantLong RX3 215 (4503599627370496), Cond.constantDouble RX3 217 (4841369599423283200)]
def wsL_law0 : List Cond := (wsL_law0_r1 ++ (wsL_law0_r2 ++ (wsL_law0_r3 ++ (wsL_law0_r4 ++ (wsL_law0_r5 ++ (wsL_law0_r6 ++ (wsL_law0_r7 ++ (wsL_law0_r8 ++ (wsL_law0_r9 ++ (wsL_law0_r10 ++ (wsL_law0_r11 ++ (wsL_law0_r12 ++ (wsL_law0_r13 ++ (wsL_law0_r14 ++ (wsL_law0_r15 ++ (wsL_law0_r16 ++ (wsL_law0_r17 ++ (wsL_law0_r18 ++ (wsL_law0_r19 ++ (wsL_law0_r20 ++ (wsL_law0_r21 ++ (wsL_law0_r22 ++ (wsL_law0_r23 ++ (wsL_law0_r24 ++ (wsL_law0_r25 ++ (wsL_law0_r26 ++ (wsL_law0_r27 ++ (wsL_law0_r28 ++ (wsL_law0_r29 ++ (wsL_law0_r30 ++ (wsL_law0_r31 ++ (wsL_law0_r32 ++ (wsL_law0_r33 ++ (wsL_law0_r34 ++ (wsL_law0_r35 ++ (wsL_law0_r36 ++ (wsL_law0_r37 ++ wsL_law0_r38))))))))))))))))))))))))))))))))))))) ++ wsX20 ++ wsX30 ++ wsX00 ++ wsX10 ++ ([] : List Cond)
def wsL_law : List Cond := wsL_law0 ++ (vx_atS RX2 212 "java/lang/IndexOutOfBoundsException" ["java/lang/RuntimeException", "java/lang/Exception"]).filter goodWord ++ (vx_atS RX2 130 "java/lang/IllegalArgumentException" ["java/lang/RuntimeException", "java/lang/Exception"]).filter goodWord ++ (vx_atS RX2 88 "java/lang/IllegalStateException" ["java/lang/RuntimeException", "java/lang/Exception"]).filter goodWord
abbrev vwCl : List vw_C := [(RX0, TX0, 16), (RX1, TX1, 6), (RX2, TX2, 9), (RX3, TX3, 14)]
end
section
theorem dX0_init_0 : decode cX0_init 0 = .ok (.aload_n 0, 1) := by decide +kernel
theorem dX0_init_1 : decode cX0_init 1 = .ok (.invokespecial 3, 3) := by decide +kernel
theorem dX0_init_4 : decode cX0_init 4 = .ok (.aload_n 0, 1) := by decide +kernel
theorem dX0_init_5 : decode cX0_init 5 = .ok (.bipush 6, 2) := by decide +kernel
theorem dX0_init_7 : decode cX0_init 7 = .ok (.newarray .int, 2) := by decide +kernel
theorem dX0_init_9 : decode cX0_init 9 = .ok (.putfield 9, 3) := by decide +kernel
theorem dX0_init_12 : decode cX0_init 12 = .ok (.aload_n 0, 1) := by decide +kernel
theorem dX0_init_13 : decode cX0_init 13 = .ok (.bipush 6, 2) := by decide +kernel
theorem dX0_init_15 : decode cX0_init 15 = .ok (.newarray .int, 2) := by decide +kernel
theorem dX0_init_17 : decode cX0_init 17 = .ok (.putfield 15, 3) := by decide +kernel
theorem dX0_init_20 : decode cX0_init 20 = .ok (.aload_n 0, 1) := by decide +kernel
theorem dX0_init_21 : decode cX0_init 21 = .ok (.bipush 36, 2) := by decide +kernel
theorem dX0_init_23 : decode cX0_init 23 = .ok (.newarray .int, 2) := by decide +kernel
theorem dX0_init_25 : decode cX0_init 25 = .ok (.putfield 18, 3) := by decide +kernel
theorem dX0_init_28 : decode cX0_init 28 = .ok (.aload_n 0, 1) := by decide +kernel
theorem dX0_init_29 : decode cX0_init 29 = .ok (.bipush 6, 2) := by decide +kernel
theorem dX0_init_31 : decode cX0_init 31 = .ok (.newarray .int, 2) := by decide +kernel
theorem dX0_init_33 : decode cX0_init 33 = .ok (.putfield 21, 3) := by decide +kernel
theorem dX0_init_36 : decode cX0_init 36 = .ok (.aload_n 0, 1) := by decide +kernel
theorem dX0_init_37 : decode cX0_init 37 = .ok (.bipush 6, 2) := by decide +kernel
theorem dX0_init_39 : decode cX0_init 39 = .ok (.newarray .int, 2) := by decide +kernel
theorem dX0_init_41 : decode cX0_init 41 = .ok (.putfield 24, 3) := by decide +kernel
theorem dX0_init_44 : decode cX0_init 44 = .ok (.aload_n 0, 1) := by decide +kernel
theorem dX0_init_45 : decode cX0_init 45 = .ok (.bipush 6, 2) := by decide +kernel
theorem dX0_init_47 : decode cX0_init 47 = .ok (.newarray .int, 2) := by decide +kernel
theorem dX0_init_49 : decode cX0_init 49 = .ok (.putfield 27, 3) := by decide +kernel
theorem dX0_init_52 : decode cX0_init 52 = .ok (.aload_n 0, 1) := by decide +kernel
theorem dX0_init_53 : decode cX0_init 53 = .ok (.bipush 6, 2) := by decide +kernel
theorem dX0_init_55 : decode cX0_init 55 = .ok (.newarray .int, 2) := by decide +kernel
theorem dX0_init_57 : decode cX0_init 57 = .ok (.putfield 30, 3) := by decide +kernel
theorem dX0_init_60 : decode cX0_init 60 = .ok (.aload_n 0, 1) := by decide +kernel
theorem dX0_init_61 : decode cX0_init 61 = .ok (.iconst 2, 1) := by decide +kernel
theorem dX0_init_62 : decode cX0_init 62 = .ok (.newarray .int, 2) := by decide +kernel
theorem dX0_init_64 : decode cX0_init 64 = .ok (.dup, 1) := by decide +kernel
theorem dX0_init_65 : decode cX0_init 65 = .ok (.iconst 0, 1) := by decide +kernel
theorem dX0_init_66 : decode cX0_init 66 = .ok (.bipush 20, 2) := by decide +kernel
theorem dX0_init_68 : decode cX0_init 68 = .ok (.iastore, 1) := by decide +kernel
theorem dX0_init_69 : decode cX0_init 69 = .ok (.dup, 1) := by decide +kernel
theorem dX0_init_70 : decode cX0_init 70 = .ok (.iconst 1, 1) := by decide +kernel
theorem dX0_init_71 : decode cX0_init 71 = .ok (.iconst 3, 1) := by decide +kernel
theorem dX0_init_72 : decode cX0_init 72 = .ok (.iastore, 1) := by decide +kernel
theorem dX0_init_73 : decode cX0_init 73 = .ok (.putfield 33, 3) := by decide +kernel
theorem dX0_init_76 : decode cX0_init 76 = .ok (.return_, 1) := by decide +kernel
theorem dX0_place_0 : decode cX0_place 0 = .ok (.iload_n 0, 1) := by decide +kernel
theorem dX0_place_1 : decode cX0_place 1 = .ok (.bipush 6, 2) := by decide +kernel
theorem dX0_place_3 : decode cX0_place 3 = .ok (.imul, 1) := by decide +kernel
theorem dX0_place_4 : decode cX0_place 4 = .ok (.iload_n 1, 1) := by decide +kernel
theorem dX0_place_5 : decode cX0_place 5 = .ok (.iadd, 1) := by decide +kernel
theorem dX0_place_6 : decode cX0_place 6 = .ok (.ireturn, 1) := by decide +kernel
set_option maxRecDepth 20000 in
theorem ggX0_copyFrom_X0_copyRow : GoodIn wsX0_copyFrom wsX0_copyRow := goodIn_r _ [20, 21, 22, 23, 24, 25, 26, 27, 28] (by decide +kernel) (by decide +kernel)
set_option maxRecDepth 20000 in
theorem gX0_copyFrom_X0_copyRow : GoodIn wsX0_copyFrom (va_wsS RX0 36 yX0_copyRow wsX0_copyRow) := goodIn_app (goodIn_of _ (by decide +kernel)) ggX0_copyFrom_X0_copyRow
theorem dX0_copyFrom_0 : decode cX0_copyFrom 0 = .ok (.aload_n 1, 1) := by decide +kernel
theorem dX0_copyFrom_1 : decode cX0_copyFrom 1 = .ok (.getfield 9, 3) := by decide +kernel
theorem dX0_copyFrom_4 : decode cX0_copyFrom 4 = .ok (.aload_n 0, 1) := by decide +kernel
theorem dX0_copyFrom_5 : decode cX0_copyFrom 5 = .ok (.getfield 9, 3) := by decide +kernel
theorem dX0_copyFrom_8 : decode cX0_copyFrom 8 = .ok (.invokestatic 36, 3) := by decide +kernel
theorem dX0_copyFrom_11 : decode cX0_copyFrom 11 = .ok (.aload_n 1, 1) := by decide +kernel
theorem dX0_copyFrom_12 : decode cX0_copyFrom 12 = .ok (.getfield 15, 3) := by decide +kernel
theorem dX0_copyFrom_15 : decode cX0_copyFrom 15 = .ok (.aload_n 0, 1) := by decide +kernel
theorem dX0_copyFrom_16 : decode cX0_copyFrom 16 = .ok (.getfield 15, 3) := by decide +kernel
theorem dX0_copyFrom_19 : decode cX0_copyFrom 19 = .ok (.invokestatic 36, 3) := by decide +kernel
theorem dX0_copyFrom_22 : decode cX0_copyFrom 22 = .ok (.aload_n 1, 1) := by decide +kernel
theorem dX0_copyFrom_23 : decode cX0_copyFrom 23 = .ok (.getfield 18, 3) := by decide +kernel
theorem dX0_copyFrom_26 : decode cX0_copyFrom 26 = .ok (.aload_n 0, 1) := by decide +kernel
theorem dX0_copyFrom_27 : decode cX0_copyFrom 27 = .ok (.getfield 18, 3) := by decide +kernel
theorem dX0_copyFrom_30 : decode cX0_copyFrom 30 = .ok (.invokestatic 36, 3) := by decide +kernel
theorem dX0_copyFrom_33 : decode cX0_copyFrom 33 = .ok (.aload_n 1, 1) := by decide +kernel
theorem dX0_copyFrom_34 : decode cX0_copyFrom 34 = .ok (.getfield 21, 3) := by decide +kernel
theorem dX0_copyFrom_37 : decode cX0_copyFrom 37 = .ok (.aload_n 0, 1) := by decide +kernel
theorem dX0_copyFrom_38 : decode cX0_copyFrom 38 = .ok (.getfield 21, 3) := by decide +kernel
theorem dX0_copyFrom_41 : decode cX0_copyFrom 41 = .ok (.invokestatic 36, 3) := by decide +kernel
theorem dX0_copyFrom_44 : decode cX0_copyFrom 44 = .ok (.aload_n 1, 1) := by decide +kernel
theorem dX0_copyFrom_45 : decode cX0_copyFrom 45 = .ok (.getfield 24, 3) := by decide +kernel
theorem dX0_copyFrom_48 : decode cX0_copyFrom 48 = .ok (.aload_n 0, 1) := by decide +kernel
theorem dX0_copyFrom_49 : decode cX0_copyFrom 49 = .ok (.getfield 24, 3) := by decide +kernel
theorem dX0_copyFrom_52 : decode cX0_copyFrom 52 = .ok (.invokestatic 36, 3) := by decide +kernel
theorem dX0_copyFrom_55 : decode cX0_copyFrom 55 = .ok (.aload_n 1, 1) := by decide +kernel
theorem dX0_copyFrom_56 : decode cX0_copyFrom 56 = .ok (.getfield 27, 3) := by decide +kernel
theorem dX0_copyFrom_59 : decode cX0_copyFrom 59 = .ok (.aload_n 0, 1) := by decide +kernel
theorem dX0_copyFrom_60 : decode cX0_copyFrom 60 = .ok (.getfield 27, 3) := by decide +kernel
theorem dX0_copyFrom_63 : decode cX0_copyFrom 63 = .ok (.invokestatic 36, 3) := by decide +kernel
theorem dX0_copyFrom_66 : decode cX0_copyFrom 66 = .ok (.aload_n 1, 1) := by decide +kernel
theorem dX0_copyFrom_67 : decode cX0_copyFrom 67 = .ok (.getfield 30, 3) := by decide +kernel
theorem dX0_copyFrom_70 : decode cX0_copyFrom 70 = .ok (.aload_n 0, 1) := by decide +kernel
theorem dX0_copyFrom_71 : decode cX0_copyFrom 71 = .ok (.getfield 30, 3) := by decide +kernel
theorem dX0_copyFrom_74 : decode cX0_copyFrom 74 = .ok (.invokestatic 36, 3) := by decide +kernel
theorem dX0_copyFrom_77 : decode cX0_copyFrom 77 = .ok (.aload_n 1, 1) := by decide +kernel
theorem dX0_copyFrom_78 : decode cX0_copyFrom 78 = .ok (.getfield 33, 3) := by decide +kernel
theorem dX0_copyFrom_81 : decode cX0_copyFrom 81 = .ok (.aload_n 0, 1) := by decide +kernel
theorem dX0_copyFrom_82 : decode cX0_copyFrom 82 = .ok (.getfield 33, 3) := by decide +kernel
theorem dX0_copyFrom_85 : decode cX0_copyFrom 85 = .ok (.invokestatic 36, 3) := by decide +kernel
theorem dX0_copyFrom_88 : decode cX0_copyFrom 88 = .ok (.aload_n 0, 1) := by decide +kernel
theorem dX0_copyFrom_89 : decode cX0_copyFrom 89 = .ok (.aload_n 1, 1) := by decide +kernel
theorem dX0_copyFrom_90 : decode cX0_copyFrom 90 = .ok (.getfield 40, 3) := by decide +kernel
theorem dX0_copyFrom_93 : decode cX0_copyFrom 93 = .ok (.putfield 40, 3) := by decide +kernel
theorem dX0_copyFrom_96 : decode cX0_copyFrom 96 = .ok (.aload_n 0, 1) := by decide +kernel
theorem dX0_copyFrom_97 : decode cX0_copyFrom 97 = .ok (.aload_n 1, 1) := by decide +kernel
theorem dX0_copyFrom_98 : decode cX0_copyFrom 98 = .ok (.getfield 44, 3) := by decide +kernel
theorem dX0_copyFrom_101 : decode cX0_copyFrom 101 = .ok (.putfield 44, 3) := by decide +kernel
theorem dX0_copyFrom_104 : decode cX0_copyFrom 104 = .ok (.aload_n 0, 1) := by decide +kernel
theorem dX0_copyFrom_105 : decode cX0_copyFrom 105 = .ok (.aload_n 1, 1) := by decide +kernel
theorem dX0_copyFrom_106 : decode cX0_copyFrom 106 = .ok (.getfield 47, 3) := by decide +kernel
theorem dX0_copyFrom_109 : decode cX0_copyFrom 109 = .ok (.putfield 47, 3) := by decide +kernel
theorem dX0_copyFrom_112 : decode cX0_copyFrom 112 = .ok (.aload_n 0, 1) := by decide +kernel
theorem dX0_copyFrom_113 : decode cX0_copyFrom 113 = .ok (.aload_n 1, 1) := by decide +kernel
theorem dX0_copyFrom_114 : decode cX0_copyFrom 114 = .ok (.getfield 50, 3) := by decide +kernel
theorem dX0_copyFrom_117 : decode cX0_copyFrom 117 = .ok (.putfield 50, 3) := by decide +kernel
theorem dX0_copyFrom_120 : decode cX0_copyFrom 120 = .ok (.aload_n 0, 1) := by decide +kernel
theorem dX0_copyFrom_121 : decode cX0_copyFrom 121 = .ok (.aload_n 1, 1) := by decide +kernel
theorem dX0_copyFrom_122 : decode cX0_copyFrom 122 = .ok (.getfield 53, 3) := by decide +kernel
theorem dX0_copyFrom_125 : decode cX0_copyFrom 125 = .ok (.putfield 53, 3) := by decide +kernel
theorem dX0_copyFrom_128 : decode cX0_copyFrom 128 = .ok (.aload_n 0, 1) := by decide +kernel
theorem dX0_copyFrom_129 : decode cX0_copyFrom 129 = .ok (.aload_n 1, 1) := by decide +kernel
theorem dX0_copyFrom_130 : decode cX0_copyFrom 130 = .ok (.getfield 56, 3) := by decide +kernel
theorem dX0_copyFrom_133 : decode cX0_copyFrom 133 = .ok (.putfield 56, 3) := by decide +kernel
theorem dX0_copyFrom_136 : decode cX0_copyFrom 136 = .ok (.aload_n 0, 1) := by decide +kernel
theorem dX0_copyFrom_137 : decode cX0_copyFrom 137 = .ok (.aload_n 1, 1) := by decide +kernel
theorem dX0_copyFrom_138 : decode cX0_copyFrom 138 = .ok (.getfield 59, 3) := by decide +kernel
theorem dX0_copyFrom_141 : decode cX0_copyFrom 141 = .ok (.putfield 59, 3) := by decide +kernel
theorem dX0_copyFrom_144 : decode cX0_copyFrom 144 = .ok (.aload_n 0, 1) := by decide +kernel
theorem dX0_copyFrom_145 : decode cX0_copyFrom 145 = .ok (.aload_n 1, 1) := by decide +kernel
theorem dX0_copyFrom_146 : decode cX0_copyFrom 146 = .ok (.getfield 62, 3) := by decide +kernel
theorem dX0_copyFrom_149 : decode cX0_copyFrom 149 = .ok (.putfield 62, 3) := by decide +kernel
theorem dX0_copyFrom_152 : decode cX0_copyFrom 152 = .ok (.return_, 1) := by decide +kernel
theorem dX0_copyRow_0 : decode cX0_copyRow 0 = .ok (.aload_n 0, 1) := by decide +kernel
theorem dX0_copyRow_1 : decode cX0_copyRow 1 = .ok (.iconst 0, 1) := by decide +kernel
theorem dX0_copyRow_2 : decode cX0_copyRow 2 = .ok (.aload_n 1, 1) := by decide +kernel
theorem dX0_copyRow_3 : decode cX0_copyRow 3 = .ok (.iconst 0, 1) := by decide +kernel
theorem dX0_copyRow_4 : decode cX0_copyRow 4 = .ok (.aload_n 0, 1) := by decide +kernel
theorem dX0_copyRow_5 : decode cX0_copyRow 5 = .ok (.arraylength, 1) := by decide +kernel
theorem dX0_copyRow_6 : decode cX0_copyRow 6 = .ok (.aload_n 1, 1) := by decide +kernel
theorem dX0_copyRow_7 : decode cX0_copyRow 7 = .ok (.arraylength, 1) := by decide +kernel
theorem dX0_copyRow_8 : decode cX0_copyRow 8 = .ok (.invokestatic 65, 3) := by decide +kernel
theorem dX0_copyRow_11 : decode cX0_copyRow 11 = .ok (.invokestatic 71, 3) := by decide +kernel
theorem dX0_copyRow_14 : decode cX0_copyRow 14 = .ok (.return_, 1) := by decide +kernel
theorem dX0_allShares_0 : decode cX0_allShares 0 = .ok (.iconst 0, 1) := by decide +kernel
theorem dX0_allShares_1 : decode cX0_allShares 1 = .ok (.istore_n 1, 1) := by decide +kernel
theorem dX0_allShares_2 : decode cX0_allShares 2 = .ok (.aload_n 0, 1) := by decide +kernel
theorem dX0_allShares_3 : decode cX0_allShares 3 = .ok (.getfield 9, 3) := by decide +kernel
theorem dX0_allShares_6 : decode cX0_allShares 6 = .ok (.astore_n 2, 1) := by decide +kernel
theorem dX0_allShares_7 : decode cX0_allShares 7 = .ok (.aload_n 2, 1) := by decide +kernel
theorem dX0_allShares_8 : decode cX0_allShares 8 = .ok (.arraylength, 1) := by decide +kernel
theorem dX0_allShares_9 : decode cX0_allShares 9 = .ok (.istore_n 3, 1) := by decide +kernel
theorem dX0_allShares_10 : decode cX0_allShares 10 = .ok (.iconst 0, 1) := by decide +kernel
theorem dX0_allShares_11 : decode cX0_allShares 11 = .ok (.istore 4, 2) := by decide +kernel
theorem dX0_allShares_13 : decode cX0_allShares 13 = .ok (.iload 4, 2) := by decide +kernel
theorem dX0_allShares_15 : decode cX0_allShares 15 = .ok (.iload_n 3, 1) := by decide +kernel
theorem dX0_allShares_16 : decode cX0_allShares 16 = .ok (.if_icmp .ge 20, 3) := by decide +kernel
theorem dX0_allShares_19 : decode cX0_allShares 19 = .ok (.aload_n 2, 1) := by decide +kernel
theorem dX0_allShares_20 : decode cX0_allShares 20 = .ok (.iload 4, 2) := by decide +kernel
theorem dX0_allShares_22 : decode cX0_allShares 22 = .ok (.iaload, 1) := by decide +kernel
theorem dX0_allShares_23 : decode cX0_allShares 23 = .ok (.istore 5, 2) := by decide +kernel
theorem dX0_allShares_25 : decode cX0_allShares 25 = .ok (.iload_n 1, 1) := by decide +kernel
theorem dX0_allShares_26 : decode cX0_allShares 26 = .ok (.iload 5, 2) := by decide +kernel
theorem dX0_allShares_28 : decode cX0_allShares 28 = .ok (.iadd, 1) := by decide +kernel
theorem dX0_allShares_29 : decode cX0_allShares 29 = .ok (.istore_n 1, 1) := by decide +kernel
theorem dX0_allShares_30 : decode cX0_allShares 30 = .ok (.iinc 4 1, 3) := by decide +kernel
theorem dX0_allShares_33 : decode cX0_allShares 33 = .ok (.goto (-20), 3) := by decide +kernel
theorem dX0_allShares_36 : decode cX0_allShares 36 = .ok (.iload_n 1, 1) := by decide +kernel
theorem dX0_allShares_37 : decode cX0_allShares 37 = .ok (.ireturn, 1) := by decide +kernel
theorem dX0_allRests_0 : decode cX0_allRests 0 = .ok (.iconst 0, 1) := by decide +kernel
theorem dX0_allRests_1 : decode cX0_allRests 1 = .ok (.istore_n 1, 1) := by decide +kernel
theorem dX0_allRests_2 : decode cX0_allRests 2 = .ok (.aload_n 0, 1) := by decide +kernel
theorem dX0_allRests_3 : decode cX0_allRests 3 = .ok (.getfield 21, 3) := by decide +kernel
theorem dX0_allRests_6 : decode cX0_allRests 6 = .ok (.astore_n 2, 1) := by decide +kernel
theorem dX0_allRests_7 : decode cX0_allRests 7 = .ok (.aload_n 2, 1) := by decide +kernel
theorem dX0_allRests_8 : decode cX0_allRests 8 = .ok (.arraylength, 1) := by decide +kernel
theorem dX0_allRests_9 : decode cX0_allRests 9 = .ok (.istore_n 3, 1) := by decide +kernel
theorem dX0_allRests_10 : decode cX0_allRests 10 = .ok (.iconst 0, 1) := by decide +kernel
theorem dX0_allRests_11 : decode cX0_allRests 11 = .ok (.istore 4, 2) := by decide +kernel
theorem dX0_allRests_13 : decode cX0_allRests 13 = .ok (.iload 4, 2) := by decide +kernel
theorem dX0_allRests_15 : decode cX0_allRests 15 = .ok (.iload_n 3, 1) := by decide +kernel
theorem dX0_allRests_16 : decode cX0_allRests 16 = .ok (.if_icmp .ge 20, 3) := by decide +kernel
theorem dX0_allRests_19 : decode cX0_allRests 19 = .ok (.aload_n 2, 1) := by decide +kernel
theorem dX0_allRests_20 : decode cX0_allRests 20 = .ok (.iload 4, 2) := by decide +kernel
theorem dX0_allRests_22 : decode cX0_allRests 22 = .ok (.iaload, 1) := by decide +kernel
theorem dX0_allRests_23 : decode cX0_allRests 23 = .ok (.istore 5, 2) := by decide +kernel
theorem dX0_allRests_25 : decode cX0_allRests 25 = .ok (.iload_n 1, 1) := by decide +kernel
theorem dX0_allRests_26 : decode cX0_allRests 26 = .ok (.iload 5, 2) := by decide +kernel
theorem dX0_allRests_28 : decode cX0_allRests 28 = .ok (.iadd, 1) := by decide +kernel
theorem dX0_allRests_29 : decode cX0_allRests 29 = .ok (.istore_n 1, 1) := by decide +kernel
theorem dX0_allRests_30 : decode cX0_allRests 30 = .ok (.iinc 4 1, 3) := by decide +kernel
theorem dX0_allRests_33 : decode cX0_allRests 33 = .ok (.goto (-20), 3) := by decide +kernel
theorem dX0_allRests_36 : decode cX0_allRests 36 = .ok (.iload_n 1, 1) := by decide +kernel
theorem dX0_allRests_37 : decode cX0_allRests 37 = .ok (.ireturn, 1) := by decide +kernel
theorem dX0_allShareDays_0 : decode cX0_allShareDays 0 = .ok (.lconst 0, 1) := by decide +kernel
theorem dX0_allShareDays_1 : decode cX0_allShareDays 1 = .ok (.lstore_n 1, 1) := by decide +kernel
theorem dX0_allShareDays_2 : decode cX0_allShareDays 2 = .ok (.aload_n 0, 1) := by decide +kernel
theorem dX0_allShareDays_3 : decode cX0_allShareDays 3 = .ok (.getfield 15, 3) := by decide +kernel
theorem dX0_allShareDays_6 : decode cX0_allShareDays 6 = .ok (.astore_n 3, 1) := by decide +kernel
theorem dX0_allShareDays_7 : decode cX0_allShareDays 7 = .ok (.aload_n 3, 1) := by decide +kernel
theorem dX0_allShareDays_8 : decode cX0_allShareDays 8 = .ok (.arraylength, 1) := by decide +kernel
theorem dX0_allShareDays_9 : decode cX0_allShareDays 9 = .ok (.istore 4, 2) := by decide +kernel
theorem dX0_allShareDays_11 : decode cX0_allShareDays 11 = .ok (.iconst 0, 1) := by decide +kernel
theorem dX0_allShareDays_12 : decode cX0_allShareDays 12 = .ok (.istore 5, 2) := by decide +kernel
theorem dX0_allShareDays_14 : decode cX0_allShareDays 14 = .ok (.iload 5, 2) := by decide +kernel
theorem dX0_allShareDays_16 : decode cX0_allShareDays 16 = .ok (.iload 4, 2) := by decide +kernel
theorem dX0_allShareDays_18 : decode cX0_allShareDays 18 = .ok (.if_icmp .ge 21, 3) := by decide +kernel
theorem dX0_allShareDays_21 : decode cX0_allShareDays 21 = .ok (.aload_n 3, 1) := by decide +kernel
theorem dX0_allShareDays_22 : decode cX0_allShareDays 22 = .ok (.iload 5, 2) := by decide +kernel
theorem dX0_allShareDays_24 : decode cX0_allShareDays 24 = .ok (.iaload, 1) := by decide +kernel
theorem dX0_allShareDays_25 : decode cX0_allShareDays 25 = .ok (.istore 6, 2) := by decide +kernel
theorem dX0_allShareDays_27 : decode cX0_allShareDays 27 = .ok (.lload_n 1, 1) := by decide +kernel
theorem dX0_allShareDays_28 : decode cX0_allShareDays 28 = .ok (.iload 6, 2) := by decide +kernel
theorem dX0_allShareDays_30 : decode cX0_allShareDays 30 = .ok (.i2l, 1) := by decide +kernel
theorem dX0_allShareDays_31 : decode cX0_allShareDays 31 = .ok (.ladd, 1) := by decide +kernel
theorem dX0_allShareDays_32 : decode cX0_allShareDays 32 = .ok (.lstore_n 1, 1) := by decide +kernel
theorem dX0_allShareDays_33 : decode cX0_allShareDays 33 = .ok (.iinc 5 1, 3) := by decide +kernel
theorem dX0_allShareDays_36 : decode cX0_allShareDays 36 = .ok (.goto (-22), 3) := by decide +kernel
theorem dX0_allShareDays_39 : decode cX0_allShareDays 39 = .ok (.lload_n 1, 1) := by decide +kernel
theorem dX0_allShareDays_40 : decode cX0_allShareDays 40 = .ok (.lreturn, 1) := by decide +kernel
set_option maxRecDepth 20000 in
theorem ggX0_loans_X0_hasLoan : GoodIn wsX0_loans wsX0_hasLoan := goodIn_r _ [5, 6, 7, 8, 9, 10, 11, 12, 13, 14, 15, 16, 17, 18, 19, 20, 21, 22] (by decide +kernel) (by decide +kernel)
set_option maxRecDepth 20000 in
theorem gX0_loans_X0_hasLoan : GoodIn wsX0_loans (wsV RX0 77 RX0 yX0_hasLoan wsX0_hasLoan) := goodIn_app (goodIn_of _ (by decide +kernel)) ggX0_loans_X0_hasLoan
theorem dX0_loans_0 : decode cX0_loans 0 = .ok (.iconst 0, 1) := by decide +kernel
theorem dX0_loans_1 : decode cX0_loans 1 = .ok (.istore_n 1, 1) := by decide +kernel
theorem dX0_loans_2 : decode cX0_loans 2 = .ok (.iconst 0, 1) := by decide +kernel
theorem dX0_loans_3 : decode cX0_loans 3 = .ok (.istore_n 2, 1) := by decide +kernel
theorem dX0_loans_4 : decode cX0_loans 4 = .ok (.iload_n 2, 1) := by decide +kernel
theorem dX0_loans_5 : decode cX0_loans 5 = .ok (.bipush 6, 2) := by decide +kernel
theorem dX0_loans_7 : decode cX0_loans 7 = .ok (.if_icmp .ge 20, 3) := by decide +kernel
theorem dX0_loans_10 : decode cX0_loans 10 = .ok (.aload_n 0, 1) := by decide +kernel
theorem dX0_loans_11 : decode cX0_loans 11 = .ok (.iload_n 2, 1) := by decide +kernel
theorem dX0_loans_12 : decode cX0_loans 12 = .ok (.invokevirtual 77, 3) := by decide +kernel
theorem dX0_loans_15 : decode cX0_loans 15 = .ok (.ifCond .eq 6, 3) := by decide +kernel
theorem dX0_loans_18 : decode cX0_loans 18 = .ok (.iinc 1 1, 3) := by decide +kernel
theorem dX0_loans_21 : decode cX0_loans 21 = .ok (.iinc 2 1, 3) := by decide +kernel
theorem dX0_loans_24 : decode cX0_loans 24 = .ok (.goto (-20), 3) := by decide +kernel
theorem dX0_loans_27 : decode cX0_loans 27 = .ok (.iload_n 1, 1) := by decide +kernel
theorem dX0_loans_28 : decode cX0_loans 28 = .ok (.ireturn, 1) := by decide +kernel
theorem dX0_hasLoan_0 : decode cX0_hasLoan 0 = .ok (.aload_n 0, 1) := by decide +kernel
theorem dX0_hasLoan_1 : decode cX0_hasLoan 1 = .ok (.getfield 21, 3) := by decide +kernel
theorem dX0_hasLoan_4 : decode cX0_hasLoan 4 = .ok (.iload_n 1, 1) := by decide +kernel
theorem dX0_hasLoan_5 : decode cX0_hasLoan 5 = .ok (.iaload, 1) := by decide +kernel
theorem dX0_hasLoan_6 : decode cX0_hasLoan 6 = .ok (.ifCond .le 7, 3) := by decide +kernel
theorem dX0_hasLoan_9 : decode cX0_hasLoan 9 = .ok (.iconst 1, 1) := by decide +kernel
theorem dX0_hasLoan_10 : decode cX0_hasLoan 10 = .ok (.goto 4, 3) := by decide +kernel
theorem dX0_hasLoan_13 : decode cX0_hasLoan 13 = .ok (.iconst 0, 1) := by decide +kernel
theorem dX0_hasLoan_14 : decode cX0_hasLoan 14 = .ok (.ireturn, 1) := by decide +kernel
theorem dX0_pledgedBy_0 : decode cX0_pledgedBy 0 = .ok (.iconst 0, 1) := by decide +kernel
theorem dX0_pledgedBy_1 : decode cX0_pledgedBy 1 = .ok (.istore_n 2, 1) := by decide +kernel
theorem dX0_pledgedBy_2 : decode cX0_pledgedBy 2 = .ok (.iload_n 1, 1) := by decide +kernel
theorem dX0_pledgedBy_3 : decode cX0_pledgedBy 3 = .ok (.bipush 6, 2) := by decide +kernel
theorem dX0_pledgedBy_5 : decode cX0_pledgedBy 5 = .ok (.imul, 1) := by decide +kernel
theorem dX0_pledgedBy_6 : decode cX0_pledgedBy 6 = .ok (.istore_n 3, 1) := by decide +kernel
theorem dX0_pledgedBy_7 : decode cX0_pledgedBy 7 = .ok (.iconst 0, 1) := by decide +kernel
theorem dX0_pledgedBy_8 : decode cX0_pledgedBy 8 = .ok (.istore 4, 2) := by decide +kernel
theorem dX0_pledgedBy_10 : decode cX0_pledgedBy 10 = .ok (.iload 4, 2) := by decide +kernel
theorem dX0_pledgedBy_12 : decode cX0_pledgedBy 12 = .ok (.bipush 6, 2) := by decide +kernel
theorem dX0_pledgedBy_14 : decode cX0_pledgedBy 14 = .ok (.if_icmp .ge 21, 3) := by decide +kernel
theorem dX0_pledgedBy_17 : decode cX0_pledgedBy 17 = .ok (.iload_n 2, 1) := by decide +kernel
theorem dX0_pledgedBy_18 : decode cX0_pledgedBy 18 = .ok (.aload_n 0, 1) := by decide +kernel
theorem dX0_pledgedBy_19 : decode cX0_pledgedBy 19 = .ok (.getfield 18, 3) := by decide +kernel
theorem dX0_pledgedBy_22 : decode cX0_pledgedBy 22 = .ok (.iload_n 3, 1) := by decide +kernel
theorem dX0_pledgedBy_23 : decode cX0_pledgedBy 23 = .ok (.iload 4, 2) := by decide +kernel
theorem dX0_pledgedBy_25 : decode cX0_pledgedBy 25 = .ok (.iadd, 1) := by decide +kernel
theorem dX0_pledgedBy_26 : decode cX0_pledgedBy 26 = .ok (.iaload, 1) := by decide +kernel
theorem dX0_pledgedBy_27 : decode cX0_pledgedBy 27 = .ok (.iadd, 1) := by decide +kernel
theorem dX0_pledgedBy_28 : decode cX0_pledgedBy 28 = .ok (.istore_n 2, 1) := by decide +kernel
theorem dX0_pledgedBy_29 : decode cX0_pledgedBy 29 = .ok (.iinc 4 1, 3) := by decide +kernel
theorem dX0_pledgedBy_32 : decode cX0_pledgedBy 32 = .ok (.goto (-22), 3) := by decide +kernel
theorem dX0_pledgedBy_35 : decode cX0_pledgedBy 35 = .ok (.iload_n 2, 1) := by decide +kernel
theorem dX0_pledgedBy_36 : decode cX0_pledgedBy 36 = .ok (.ireturn, 1) := by decide +kernel
theorem dX0_pledgedFor_0 : decode cX0_pledgedFor 0 = .ok (.iconst 0, 1) := by decide +kernel
theorem dX0_pledgedFor_1 : decode cX0_pledgedFor 1 = .ok (.istore_n 2, 1) := by decide +kernel
theorem dX0_pledgedFor_2 : decode cX0_pledgedFor 2 = .ok (.iload_n 1, 1) := by decide +kernel
theorem dX0_pledgedFor_3 : decode cX0_pledgedFor 3 = .ok (.istore_n 3, 1) := by decide +kernel
theorem dX0_pledgedFor_4 : decode cX0_pledgedFor 4 = .ok (.iload_n 3, 1) := by decide +kernel
theorem dX0_pledgedFor_5 : decode cX0_pledgedFor 5 = .ok (.aload_n 0, 1) := by decide +kernel
theorem dX0_pledgedFor_6 : decode cX0_pledgedFor 6 = .ok (.getfield 18, 3) := by decide +kernel
theorem dX0_pledgedFor_9 : decode cX0_pledgedFor 9 = .ok (.arraylength, 1) := by decide +kernel
theorem dX0_pledgedFor_10 : decode cX0_pledgedFor 10 = .ok (.if_icmp .ge 18, 3) := by decide +kernel
theorem dX0_pledgedFor_13 : decode cX0_pledgedFor 13 = .ok (.iload_n 2, 1) := by decide +kernel
theorem dX0_pledgedFor_14 : decode cX0_pledgedFor 14 = .ok (.aload_n 0, 1) := by decide +kernel
theorem dX0_pledgedFor_15 : decode cX0_pledgedFor 15 = .ok (.getfield 18, 3) := by decide +kernel
theorem dX0_pledgedFor_18 : decode cX0_pledgedFor 18 = .ok (.iload_n 3, 1) := by decide +kernel
theorem dX0_pledgedFor_19 : decode cX0_pledgedFor 19 = .ok (.iaload, 1) := by decide +kernel
theorem dX0_pledgedFor_20 : decode cX0_pledgedFor 20 = .ok (.iadd, 1) := by decide +kernel
theorem dX0_pledgedFor_21 : decode cX0_pledgedFor 21 = .ok (.istore_n 2, 1) := by decide +kernel
theorem dX0_pledgedFor_22 : decode cX0_pledgedFor 22 = .ok (.iinc 3 6, 3) := by decide +kernel
theorem dX0_pledgedFor_25 : decode cX0_pledgedFor 25 = .ok (.goto (-21), 3) := by decide +kernel
theorem dX0_pledgedFor_28 : decode cX0_pledgedFor 28 = .ok (.iload_n 2, 1) := by decide +kernel
theorem dX0_pledgedFor_29 : decode cX0_pledgedFor 29 = .ok (.ireturn, 1) := by decide +kernel
set_option maxRecDepth 20000 in
theorem ggX0_ownLeft_X0_pledgedBy : GoodIn wsX0_ownLeft wsX0_pledgedBy := goodIn_r _ [6, 7, 8, 9, 10, 11, 12, 13, 14, 15, 16, 17, 18, 19, 20, 21, 22, 23] (by decide +kernel) (by decide +kernel)
set_option maxRecDepth 20000 in
theorem gX0_ownLeft_X0_pledgedBy : GoodIn wsX0_ownLeft (wsV RX0 81 RX0 yX0_pledgedBy wsX0_pledgedBy) := goodIn_app (goodIn_of _ (by decide +kernel)) ggX0_ownLeft_X0_pledgedBy
theorem dX0_ownLeft_0 : decode cX0_ownLeft 0 = .ok (.aload_n 0, 1) := by decide +kernel
theorem dX0_ownLeft_1 : decode cX0_ownLeft 1 = .ok (.getfield 9, 3) := by decide +kernel
theorem dX0_ownLeft_4 : decode cX0_ownLeft 4 = .ok (.iload_n 1, 1) := by decide +kernel
theorem dX0_ownLeft_5 : decode cX0_ownLeft 5 = .ok (.iaload, 1) := by decide +kernel
theorem dX0_ownLeft_6 : decode cX0_ownLeft 6 = .ok (.aload_n 0, 1) := by decide +kernel
theorem dX0_ownLeft_7 : decode cX0_ownLeft 7 = .ok (.iload_n 1, 1) := by decide +kernel
theorem dX0_ownLeft_8 : decode cX0_ownLeft 8 = .ok (.invokevirtual 81, 3) := by decide +kernel
theorem dX0_ownLeft_11 : decode cX0_ownLeft 11 = .ok (.isub, 1) := by decide +kernel
theorem dX0_ownLeft_12 : decode cX0_ownLeft 12 = .ok (.ireturn, 1) := by decide +kernel
set_option maxRecDepth 20000 in
theorem ggX0_cover_X0_ownLeft : GoodIn wsX0_cover wsX0_ownLeft := goodIn_r _ [5, 6, 7, 8, 9, 4, 10, 11, 16, 17, 18, 19, 20, 21, 22, 23, 24, 25, 26, 27, 28, 29, 30, 31] (by decide +kernel) (by decide +kernel)
set_option maxRecDepth 20000 in
theorem gX0_cover_X0_ownLeft : GoodIn wsX0_cover (wsV RX0 85 RX0 yX0_ownLeft wsX0_ownLeft) := goodIn_app (goodIn_of _ (by decide +kernel)) ggX0_cover_X0_ownLeft
set_option maxRecDepth 20000 in
theorem ggX0_cover_X0_pledgedFor : GoodIn wsX0_cover wsX0_pledgedFor := goodIn_r _ [15, 11, 16, 17, 18, 19, 20, 21, 22, 23, 24, 25, 26, 27, 28, 29, 30, 31] (by decide +kernel) (by decide +kernel)
set_option maxRecDepth 20000 in
theorem gX0_cover_X0_pledgedFor : GoodIn wsX0_cover (wsV RX0 88 RX0 yX0_pledgedFor wsX0_pledgedFor) := goodIn_app (goodIn_of _ (by decide +kernel)) ggX0_cover_X0_pledgedFor
theorem dX0_cover_0 : decode cX0_cover 0 = .ok (.aload_n 0, 1) := by decide +kernel
theorem dX0_cover_1 : decode cX0_cover 1 = .ok (.iload_n 1, 1) := by decide +kernel
theorem dX0_cover_2 : decode cX0_cover 2 = .ok (.invokevirtual 85, 3) := by decide +kernel
theorem dX0_cover_5 : decode cX0_cover 5 = .ok (.aload_n 0, 1) := by decide +kernel
theorem dX0_cover_6 : decode cX0_cover 6 = .ok (.iload_n 1, 1) := by decide +kernel
theorem dX0_cover_7 : decode cX0_cover 7 = .ok (.invokevirtual 88, 3) := by decide +kernel
theorem dX0_cover_10 : decode cX0_cover 10 = .ok (.iadd, 1) := by decide +kernel
theorem dX0_cover_11 : decode cX0_cover 11 = .ok (.ireturn, 1) := by decide +kernel
set_option maxRecDepth 20000 in
theorem ggX0_freeShares_X0_ownLeft : GoodIn wsX0_freeShares wsX0_ownLeft := goodIn_r _ [10, 11, 12, 13, 14, 9, 15, 16, 21, 22, 23, 24, 25, 26, 27, 28, 29, 30, 31, 32, 33, 34, 35, 36] (by decide +kernel) (by decide +kernel)
set_option maxRecDepth 20000 in
theorem gX0_freeShares_X0_ownLeft : GoodIn wsX0_freeShares (wsV RX0 85 RX0 yX0_ownLeft wsX0_ownLeft) := goodIn_app (goodIn_of _ (by decide +kernel)) ggX0_freeShares_X0_ownLeft
set_option maxRecDepth 20000 in
theorem ggX0_freeShares_X0_pledgedFor : GoodIn wsX0_freeShares wsX0_pledgedFor := goodIn_r _ [20, 16, 21, 22, 23, 24, 25, 26, 27, 28, 29, 30, 31, 32, 33, 34, 35, 36] (by decide +kernel) (by decide +kernel)
set_option maxRecDepth 20000 in
theorem gX0_freeShares_X0_pledgedFor : GoodIn wsX0_freeShares (wsV RX0 88 RX0 yX0_pledgedFor wsX0_pledgedFor) := goodIn_app (goodIn_of _ (by decide +kernel)) ggX0_freeShares_X0_pledgedFor
theorem dX0_freeShares_0 : decode cX0_freeShares 0 = .ok (.aload_n 0, 1) := by decide +kernel
theorem dX0_freeShares_1 : decode cX0_freeShares 1 = .ok (.iload_n 1, 1) := by decide +kernel
theorem dX0_freeShares_2 : decode cX0_freeShares 2 = .ok (.invokevirtual 85, 3) := by decide +kernel
theorem dX0_freeShares_5 : decode cX0_freeShares 5 = .ok (.iconst 0, 1) := by decide +kernel
theorem dX0_freeShares_6 : decode cX0_freeShares 6 = .ok (.aload_n 0, 1) := by decide +kernel
theorem dX0_freeShares_7 : decode cX0_freeShares 7 = .ok (.getfield 21, 3) := by decide +kernel
theorem dX0_freeShares_10 : decode cX0_freeShares 10 = .ok (.iload_n 1, 1) := by decide +kernel
theorem dX0_freeShares_11 : decode cX0_freeShares 11 = .ok (.iaload, 1) := by decide +kernel
theorem dX0_freeShares_12 : decode cX0_freeShares 12 = .ok (.aload_n 0, 1) := by decide +kernel
theorem dX0_freeShares_13 : decode cX0_freeShares 13 = .ok (.iload_n 1, 1) := by decide +kernel
theorem dX0_freeShares_14 : decode cX0_freeShares 14 = .ok (.invokevirtual 88, 3) := by decide +kernel
theorem dX0_freeShares_17 : decode cX0_freeShares 17 = .ok (.isub, 1) := by decide +kernel
theorem dX0_freeShares_18 : decode cX0_freeShares 18 = .ok (.invokestatic 91, 3) := by decide +kernel
theorem dX0_freeShares_21 : decode cX0_freeShares 21 = .ok (.isub, 1) := by decide +kernel
theorem dX0_freeShares_22 : decode cX0_freeShares 22 = .ok (.ireturn, 1) := by decide +kernel
set_option maxRecDepth 20000 in
theorem ggX0_property_X0_pledgedBy : GoodIn wsX0_property wsX0_pledgedBy := goodIn_r _ [11, 12, 37, 38, 39, 40, 41, 42, 43, 44, 45, 46, 47, 48, 49, 50, 51, 52] (by decide +kernel) (by decide +kernel)
set_option maxRecDepth 20000 in
theorem gX0_property_X0_pledgedBy : GoodIn wsX0_property (wsV RX0 81 RX0 yX0_pledgedBy wsX0_pledgedBy) := goodIn_app (goodIn_of _ (by decide +kernel)) ggX0_property_X0_pledgedBy
set_option maxRecDepth 20000 in
theorem ggX0_property_X0_pledgedFor : GoodIn wsX0_property wsX0_pledgedFor := goodIn_r _ [16, 12, 37, 38, 39, 40, 41, 42, 43, 44, 45, 46, 47, 48, 49, 50, 51, 52] (by decide +kernel) (by decide +kernel)
set_option maxRecDepth 20000 in
theorem gX0_property_X0_pledgedFor : GoodIn wsX0_property (wsV RX0 88 RX0 yX0_pledgedFor wsX0_pledgedFor) := goodIn_app (goodIn_of _ (by decide +kernel)) ggX0_property_X0_pledgedFor
set_option maxRecDepth 20000 in
theorem ggX0_property_X0_cover : GoodIn wsX0_property wsX0_cover := goodIn_r _ [20, 21, 22, 23, 10, 24, 1, 7, 8, 9, 11, 12, 13, 14, 15, 16, 37, 38, 39, 40, 41, 42, 43, 44, 45, 46, 47, 48, 49, 50, 51, 52] (by decide +kernel) (by decide +kernel)
set_option maxRecDepth 20000 in
theorem gX0_property_X0_cover : GoodIn wsX0_property (wsV RX0 94 RX0 yX0_cover wsX0_cover) := goodIn_app (goodIn_of _ (by decide +kernel)) ggX0_property_X0_cover
set_option maxRecDepth 20000 in
theorem ggX0_property_X0_freeShares : GoodIn wsX0_property wsX0_freeShares := goodIn_r _ [28, 3, 29, 30, 31, 32, 21, 22, 23, 10, 24, 1, 7, 8, 9, 11, 12, 13, 14, 15, 16, 37, 38, 39, 40, 41, 42, 43, 44, 45, 46, 47, 48, 49, 50, 51, 52] (by decide +kernel) (by decide +kernel)
set_option maxRecDepth 20000 in
theorem gX0_property_X0_freeShares : GoodIn wsX0_property (wsV RX0 97 RX0 yX0_freeShares wsX0_freeShares) := goodIn_app (goodIn_of _ (by decide +kernel)) ggX0_property_X0_freeShares
set_option maxRecDepth 20000 in
theorem ggX0_property_X0_hasLoan : GoodIn wsX0_property wsX0_hasLoan := goodIn_r _ [36, 3, 37, 38, 39, 40, 41, 42, 43, 44, 45, 46, 47, 48, 49, 50, 51, 52] (by decide +kernel) (by decide +kernel)
set_option maxRecDepth 20000 in
theorem gX0_property_X0_hasLoan : GoodIn wsX0_property (wsV RX0 77 RX0 yX0_hasLoan wsX0_hasLoan) := goodIn_app (goodIn_of _ (by decide +kernel)) ggX0_property_X0_hasLoan
theorem dX0_property_0 : decode cX0_property 0 = .ok (.iload_n 2, 1) := by decide +kernel
theorem dX0_property_1 : decode cX0_property 1 = .ok (.tableswitch 134 0 8 #[51, 58, 64, 70, 76, 82, 89, 96, 115], 51) := by decide +kernel
theorem dX0_property_52 : decode cX0_property 52 = .ok (.aload_n 0, 1) := by decide +kernel
theorem dX0_property_53 : decode cX0_property 53 = .ok (.getfield 9, 3) := by decide +kernel
theorem dX0_property_56 : decode cX0_property 56 = .ok (.iload_n 1, 1) := by decide +kernel
theorem dX0_property_57 : decode cX0_property 57 = .ok (.iaload, 1) := by decide +kernel
theorem dX0_property_58 : decode cX0_property 58 = .ok (.ireturn, 1) := by decide +kernel
theorem dX0_property_59 : decode cX0_property 59 = .ok (.aload_n 0, 1) := by decide +kernel
theorem dX0_property_60 : decode cX0_property 60 = .ok (.iload_n 1, 1) := by decide +kernel
theorem dX0_property_61 : decode cX0_property 61 = .ok (.invokevirtual 81, 3) := by decide +kernel
theorem dX0_property_64 : decode cX0_property 64 = .ok (.ireturn, 1) := by decide +kernel
theorem dX0_property_65 : decode cX0_property 65 = .ok (.aload_n 0, 1) := by decide +kernel
theorem dX0_property_66 : decode cX0_property 66 = .ok (.iload_n 1, 1) := by decide +kernel
theorem dX0_property_67 : decode cX0_property 67 = .ok (.invokevirtual 88, 3) := by decide +kernel
theorem dX0_property_70 : decode cX0_property 70 = .ok (.ireturn, 1) := by decide +kernel
theorem dX0_property_71 : decode cX0_property 71 = .ok (.aload_n 0, 1) := by decide +kernel
theorem dX0_property_72 : decode cX0_property 72 = .ok (.iload_n 1, 1) := by decide +kernel
theorem dX0_property_73 : decode cX0_property 73 = .ok (.invokevirtual 94, 3) := by decide +kernel
theorem dX0_property_76 : decode cX0_property 76 = .ok (.ireturn, 1) := by decide +kernel
theorem dX0_property_77 : decode cX0_property 77 = .ok (.aload_n 0, 1) := by decide +kernel
theorem dX0_property_78 : decode cX0_property 78 = .ok (.iload_n 1, 1) := by decide +kernel
theorem dX0_property_79 : decode cX0_property 79 = .ok (.invokevirtual 97, 3) := by decide +kernel
theorem dX0_property_82 : decode cX0_property 82 = .ok (.ireturn, 1) := by decide +kernel
theorem dX0_property_83 : decode cX0_property 83 = .ok (.aload_n 0, 1) := by decide +kernel
theorem dX0_property_84 : decode cX0_property 84 = .ok (.getfield 15, 3) := by decide +kernel
theorem dX0_property_87 : decode cX0_property 87 = .ok (.iload_n 1, 1) := by decide +kernel
theorem dX0_property_88 : decode cX0_property 88 = .ok (.iaload, 1) := by decide +kernel
theorem dX0_property_89 : decode cX0_property 89 = .ok (.ireturn, 1) := by decide +kernel
theorem dX0_property_90 : decode cX0_property 90 = .ok (.aload_n 0, 1) := by decide +kernel
theorem dX0_property_91 : decode cX0_property 91 = .ok (.getfield 21, 3) := by decide +kernel
theorem dX0_property_94 : decode cX0_property 94 = .ok (.iload_n 1, 1) := by decide +kernel
theorem dX0_property_95 : decode cX0_property 95 = .ok (.iaload, 1) := by decide +kernel
theorem dX0_property_96 : decode cX0_property 96 = .ok (.ireturn, 1) := by decide +kernel
theorem dX0_property_97 : decode cX0_property 97 = .ok (.aload_n 0, 1) := by decide +kernel
theorem dX0_property_98 : decode cX0_property 98 = .ok (.iload_n 1, 1) := by decide +kernel
theorem dX0_property_99 : decode cX0_property 99 = .ok (.invokevirtual 77, 3) := by decide +kernel
theorem dX0_property_102 : decode cX0_property 102 = .ok (.ifCond .eq 12, 3) := by decide +kernel
theorem dX0_property_105 : decode cX0_property 105 = .ok (.aload_n 0, 1) := by decide +kernel
theorem dX0_property_106 : decode cX0_property 106 = .ok (.getfield 24, 3) := by decide +kernel
theorem dX0_property_109 : decode cX0_property 109 = .ok (.iload_n 1, 1) := by decide +kernel
theorem dX0_property_110 : decode cX0_property 110 = .ok (.iaload, 1) := by decide +kernel
theorem dX0_property_111 : decode cX0_property 111 = .ok (.goto 4, 3) := by decide +kernel
theorem dX0_property_114 : decode cX0_property 114 = .ok (.iconst (-1), 1) := by decide +kernel
theorem dX0_property_115 : decode cX0_property 115 = .ok (.ireturn, 1) := by decide +kernel
theorem dX0_property_116 : decode cX0_property 116 = .ok (.aload_n 0, 1) := by decide +kernel
theorem dX0_property_117 : decode cX0_property 117 = .ok (.iload_n 1, 1) := by decide +kernel
theorem dX0_property_118 : decode cX0_property 118 = .ok (.invokevirtual 77, 3) := by decide +kernel
theorem dX0_property_121 : decode cX0_property 121 = .ok (.ifCond .eq 12, 3) := by decide +kernel
theorem dX0_property_124 : decode cX0_property 124 = .ok (.aload_n 0, 1) := by decide +kernel
theorem dX0_property_125 : decode cX0_property 125 = .ok (.getfield 27, 3) := by decide +kernel
theorem dX0_property_128 : decode cX0_property 128 = .ok (.iload_n 1, 1) := by decide +kernel
theorem dX0_property_129 : decode cX0_property 129 = .ok (.iaload, 1) := by decide +kernel
theorem dX0_property_130 : decode cX0_property 130 = .ok (.goto 4, 3) := by decide +kernel
theorem dX0_property_133 : decode cX0_property 133 = .ok (.iconst (-1), 1) := by decide +kernel
theorem dX0_property_134 : decode cX0_property 134 = .ok (.ireturn, 1) := by decide +kernel
theorem dX0_property_135 : decode cX0_property 135 = .ok (.aload_n 0, 1) := by decide +kernel
theorem dX0_property_136 : decode cX0_property 136 = .ok (.iload_n 1, 1) := by decide +kernel
theorem dX0_property_137 : decode cX0_property 137 = .ok (.invokevirtual 77, 3) := by decide +kernel
theorem dX0_property_140 : decode cX0_property 140 = .ok (.ifCond .eq 12, 3) := by decide +kernel
theorem dX0_property_143 : decode cX0_property 143 = .ok (.aload_n 0, 1) := by decide +kernel
theorem dX0_property_144 : decode cX0_property 144 = .ok (.getfield 30, 3) := by decide +kernel
theorem dX0_property_147 : decode cX0_property 147 = .ok (.iload_n 1, 1) := by decide +kernel
theorem dX0_property_148 : decode cX0_property 148 = .ok (.iaload, 1) := by decide +kernel
theorem dX0_property_149 : decode cX0_property 149 = .ok (.goto 4, 3) := by decide +kernel
theorem dX0_property_152 : decode cX0_property 152 = .ok (.iconst (-1), 1) := by decide +kernel
theorem dX0_property_153 : decode cX0_property 153 = .ok (.ireturn, 1) := by decide +kernel
theorem dX0_takeIn_0 : decode cX0_takeIn 0 = .ok (.aload_n 0, 1) := by decide +kernel
theorem dX0_takeIn_1 : decode cX0_takeIn 1 = .ok (.getfield 9, 3) := by decide +kernel
theorem dX0_takeIn_4 : decode cX0_takeIn 4 = .ok (.iload_n 1, 1) := by decide +kernel
theorem dX0_takeIn_5 : decode cX0_takeIn 5 = .ok (.iaload, 1) := by decide +kernel
theorem dX0_takeIn_6 : decode cX0_takeIn 6 = .ok (.iload_n 2, 1) := by decide +kernel
theorem dX0_takeIn_7 : decode cX0_takeIn 7 = .ok (.iadd, 1) := by decide +kernel
theorem dX0_takeIn_8 : decode cX0_takeIn 8 = .ok (.istore_n 3, 1) := by decide +kernel
theorem dX0_takeIn_9 : decode cX0_takeIn 9 = .ok (.iload_n 3, 1) := by decide +kernel
theorem dX0_takeIn_10 : decode cX0_takeIn 10 = .ok (.ldc 100, 2) := by decide +kernel
theorem dX0_takeIn_12 : decode cX0_takeIn 12 = .ok (.if_icmp .le 15, 3) := by decide +kernel
theorem dX0_takeIn_15 : decode cX0_takeIn 15 = .ok (.aload_n 0, 1) := by decide +kernel
theorem dX0_takeIn_16 : decode cX0_takeIn 16 = .ok (.dup, 1) := by decide +kernel
theorem dX0_takeIn_17 : decode cX0_takeIn 17 = .ok (.getfield 59, 3) := by decide +kernel
theorem dX0_takeIn_20 : decode cX0_takeIn 20 = .ok (.iconst 1, 1) := by decide +kernel
theorem dX0_takeIn_21 : decode cX0_takeIn 21 = .ok (.iadd, 1) := by decide +kernel
theorem dX0_takeIn_22 : decode cX0_takeIn 22 = .ok (.putfield 59, 3) := by decide +kernel
theorem dX0_takeIn_25 : decode cX0_takeIn 25 = .ok (.iconst (-1), 1) := by decide +kernel
theorem dX0_takeIn_26 : decode cX0_takeIn 26 = .ok (.ireturn, 1) := by decide +kernel
theorem dX0_takeIn_27 : decode cX0_takeIn 27 = .ok (.aload_n 0, 1) := by decide +kernel
theorem dX0_takeIn_28 : decode cX0_takeIn 28 = .ok (.getfield 9, 3) := by decide +kernel
theorem dX0_takeIn_31 : decode cX0_takeIn 31 = .ok (.iload_n 1, 1) := by decide +kernel
theorem dX0_takeIn_32 : decode cX0_takeIn 32 = .ok (.iload_n 3, 1) := by decide +kernel
theorem dX0_takeIn_33 : decode cX0_takeIn 33 = .ok (.iastore, 1) := by decide +kernel
theorem dX0_takeIn_34 : decode cX0_takeIn 34 = .ok (.aload_n 0, 1) := by decide +kernel
theorem dX0_takeIn_35 : decode cX0_takeIn 35 = .ok (.dup, 1) := by decide +kernel
theorem dX0_takeIn_36 : decode cX0_takeIn 36 = .ok (.getfield 40, 3) := by decide +kernel
theorem dX0_takeIn_39 : decode cX0_takeIn 39 = .ok (.iload_n 2, 1) := by decide +kernel
theorem dX0_takeIn_40 : decode cX0_takeIn 40 = .ok (.iadd, 1) := by decide +kernel
theorem dX0_takeIn_41 : decode cX0_takeIn 41 = .ok (.putfield 40, 3) := by decide +kernel
theorem dX0_takeIn_44 : decode cX0_takeIn 44 = .ok (.iload_n 3, 1) := by decide +kernel
theorem dX0_takeIn_45 : decode cX0_takeIn 45 = .ok (.ireturn, 1) := by decide +kernel
set_option maxRecDepth 20000 in
theorem ggX0_giveOut_X0_freeShares : GoodIn wsX0_giveOut wsX0_freeShares := goodIn_r _ [8, 9, 10, 11, 12, 13, 14, 15, 16, 7, 17, 3, 18, 19, 20, 21, 22, 23, 24, 25, 26, 27, 28, 29, 30, 31, 32, 33, 34, 35, 36, 37, 38, 39, 40, 41, 42] (by decide +kernel) (by decide +kernel)
set_option maxRecDepth 20000 in
theorem gX0_giveOut_X0_freeShares : GoodIn wsX0_giveOut (wsV RX0 97 RX0 yX0_freeShares wsX0_freeShares) := goodIn_app (goodIn_of _ (by decide +kernel)) ggX0_giveOut_X0_freeShares
theorem dX0_giveOut_0 : decode cX0_giveOut 0 = .ok (.iload_n 2, 1) := by decide +kernel
theorem dX0_giveOut_1 : decode cX0_giveOut 1 = .ok (.aload_n 0, 1) := by decide +kernel
theorem dX0_giveOut_2 : decode cX0_giveOut 2 = .ok (.iload_n 1, 1) := by decide +kernel
theorem dX0_giveOut_3 : decode cX0_giveOut 3 = .ok (.invokevirtual 97, 3) := by decide +kernel
theorem dX0_giveOut_6 : decode cX0_giveOut 6 = .ok (.if_icmp .le 15, 3) := by decide +kernel
theorem dX0_giveOut_9 : decode cX0_giveOut 9 = .ok (.aload_n 0, 1) := by decide +kernel
theorem dX0_giveOut_10 : decode cX0_giveOut 10 = .ok (.dup, 1) := by decide +kernel
theorem dX0_giveOut_11 : decode cX0_giveOut 11 = .ok (.getfield 59, 3) := by decide +kernel
theorem dX0_giveOut_14 : decode cX0_giveOut 14 = .ok (.iconst 1, 1) := by decide +kernel
theorem dX0_giveOut_15 : decode cX0_giveOut 15 = .ok (.iadd, 1) := by decide +kernel
theorem dX0_giveOut_16 : decode cX0_giveOut 16 = .ok (.putfield 59, 3) := by decide +kernel
theorem dX0_giveOut_19 : decode cX0_giveOut 19 = .ok (.iconst 1, 1) := by decide +kernel
theorem dX0_giveOut_20 : decode cX0_giveOut 20 = .ok (.ireturn, 1) := by decide +kernel
theorem dX0_giveOut_21 : decode cX0_giveOut 21 = .ok (.iload_n 2, 1) := by decide +kernel
theorem dX0_giveOut_22 : decode cX0_giveOut 22 = .ok (.aload_n 0, 1) := by decide +kernel
theorem dX0_giveOut_23 : decode cX0_giveOut 23 = .ok (.getfield 40, 3) := by decide +kernel
theorem dX0_giveOut_26 : decode cX0_giveOut 26 = .ok (.if_icmp .le 15, 3) := by decide +kernel
theorem dX0_giveOut_29 : decode cX0_giveOut 29 = .ok (.aload_n 0, 1) := by decide +kernel
theorem dX0_giveOut_30 : decode cX0_giveOut 30 = .ok (.dup, 1) := by decide +kernel
theorem dX0_giveOut_31 : decode cX0_giveOut 31 = .ok (.getfield 59, 3) := by decide +kernel
theorem dX0_giveOut_34 : decode cX0_giveOut 34 = .ok (.iconst 1, 1) := by decide +kernel
theorem dX0_giveOut_35 : decode cX0_giveOut 35 = .ok (.iadd, 1) := by decide +kernel
theorem dX0_giveOut_36 : decode cX0_giveOut 36 = .ok (.putfield 59, 3) := by decide +kernel
theorem dX0_giveOut_39 : decode cX0_giveOut 39 = .ok (.iconst 2, 1) := by decide +kernel
theorem dX0_giveOut_40 : decode cX0_giveOut 40 = .ok (.ireturn, 1) := by decide +kernel
theorem dX0_giveOut_41 : decode cX0_giveOut 41 = .ok (.aload_n 0, 1) := by decide +kernel
theorem dX0_giveOut_42 : decode cX0_giveOut 42 = .ok (.getfield 9, 3) := by decide +kernel
theorem dX0_giveOut_45 : decode cX0_giveOut 45 = .ok (.iload_n 1, 1) := by decide +kernel
theorem dX0_giveOut_46 : decode cX0_giveOut 46 = .ok (.dup2, 1) := by decide +kernel
theorem dX0_giveOut_47 : decode cX0_giveOut 47 = .ok (.iaload, 1) := by decide +kernel
theorem dX0_giveOut_48 : decode cX0_giveOut 48 = .ok (.iload_n 2, 1) := by decide +kernel
theorem dX0_giveOut_49 : decode cX0_giveOut 49 = .ok (.isub, 1) := by decide +kernel
theorem dX0_giveOut_50 : decode cX0_giveOut 50 = .ok (.iastore, 1) := by decide +kernel
theorem dX0_giveOut_51 : decode cX0_giveOut 51 = .ok (.aload_n 0, 1) := by decide +kernel
theorem dX0_giveOut_52 : decode cX0_giveOut 52 = .ok (.dup, 1) := by decide +kernel
theorem dX0_giveOut_53 : decode cX0_giveOut 53 = .ok (.getfield 40, 3) := by decide +kernel
theorem dX0_giveOut_56 : decode cX0_giveOut 56 = .ok (.iload_n 2, 1) := by decide +kernel
theorem dX0_giveOut_57 : decode cX0_giveOut 57 = .ok (.isub, 1) := by decide +kernel
theorem dX0_giveOut_58 : decode cX0_giveOut 58 = .ok (.putfield 40, 3) := by decide +kernel
theorem dX0_giveOut_61 : decode cX0_giveOut 61 = .ok (.iconst 0, 1) := by decide +kernel
theorem dX0_giveOut_62 : decode cX0_giveOut 62 = .ok (.ireturn, 1) := by decide +kernel
set_option maxRecDepth 20000 in
theorem ggX0_addPledge_X0_freeShares : GoodIn wsX0_addPledge wsX0_freeShares := goodIn_r _ [7, 8, 9, 10, 11, 12, 13, 14, 15, 6, 16, 17, 18, 19, 20, 21, 2, 22, 23, 24, 25, 29, 30, 31, 32, 33, 34, 35, 36, 37, 38, 39, 40, 41, 42, 43, 44] (by decide +kernel) (by decide +kernel)
set_option maxRecDepth 20000 in
theorem gX0_addPledge_X0_freeShares : GoodIn wsX0_addPledge (wsV RX0 97 RX0 yX0_freeShares wsX0_freeShares) := goodIn_app (goodIn_of _ (by decide +kernel)) ggX0_addPledge_X0_freeShares
set_option maxRecDepth 20000 in
theorem ggX0_addPledge_X0_place : GoodIn wsX0_addPledge wsX0_place := goodIn_r _ [28] (by decide +kernel) (by decide +kernel)
set_option maxRecDepth 20000 in
theorem gX0_addPledge_X0_place : GoodIn wsX0_addPledge (va_wsS RX0 101 yX0_place wsX0_place) := goodIn_app (goodIn_of _ (by decide +kernel)) ggX0_addPledge_X0_place
theorem dX0_addPledge_0 : decode cX0_addPledge 0 = .ok (.iload_n 3, 1) := by decide +kernel
theorem dX0_addPledge_1 : decode cX0_addPledge 1 = .ok (.aload_n 0, 1) := by decide +kernel
theorem dX0_addPledge_2 : decode cX0_addPledge 2 = .ok (.iload_n 1, 1) := by decide +kernel
theorem dX0_addPledge_3 : decode cX0_addPledge 3 = .ok (.invokevirtual 97, 3) := by decide +kernel
theorem dX0_addPledge_6 : decode cX0_addPledge 6 = .ok (.if_icmp .le 15, 3) := by decide +kernel
theorem dX0_addPledge_9 : decode cX0_addPledge 9 = .ok (.aload_n 0, 1) := by decide +kernel
theorem dX0_addPledge_10 : decode cX0_addPledge 10 = .ok (.dup, 1) := by decide +kernel
theorem dX0_addPledge_11 : decode cX0_addPledge 11 = .ok (.getfield 59, 3) := by decide +kernel
theorem dX0_addPledge_14 : decode cX0_addPledge 14 = .ok (.iconst 1, 1) := by decide +kernel
theorem dX0_addPledge_15 : decode cX0_addPledge 15 = .ok (.iadd, 1) := by decide +kernel
theorem dX0_addPledge_16 : decode cX0_addPledge 16 = .ok (.putfield 59, 3) := by decide +kernel
theorem dX0_addPledge_19 : decode cX0_addPledge 19 = .ok (.iconst (-1), 1) := by decide +kernel
theorem dX0_addPledge_20 : decode cX0_addPledge 20 = .ok (.ireturn, 1) := by decide +kernel
theorem dX0_addPledge_21 : decode cX0_addPledge 21 = .ok (.iload_n 1, 1) := by decide +kernel
theorem dX0_addPledge_22 : decode cX0_addPledge 22 = .ok (.iload_n 2, 1) := by decide +kernel
theorem dX0_addPledge_23 : decode cX0_addPledge 23 = .ok (.invokestatic 101, 3) := by decide +kernel
theorem dX0_addPledge_26 : decode cX0_addPledge 26 = .ok (.istore 4, 2) := by decide +kernel
theorem dX0_addPledge_28 : decode cX0_addPledge 28 = .ok (.aload_n 0, 1) := by decide +kernel
theorem dX0_addPledge_29 : decode cX0_addPledge 29 = .ok (.getfield 18, 3) := by decide +kernel
theorem dX0_addPledge_32 : decode cX0_addPledge 32 = .ok (.iload 4, 2) := by decide +kernel
theorem dX0_addPledge_34 : decode cX0_addPledge 34 = .ok (.dup2, 1) := by decide +kernel
theorem dX0_addPledge_35 : decode cX0_addPledge 35 = .ok (.iaload, 1) := by decide +kernel
theorem dX0_addPledge_36 : decode cX0_addPledge 36 = .ok (.iload_n 3, 1) := by decide +kernel
theorem dX0_addPledge_37 : decode cX0_addPledge 37 = .ok (.iadd, 1) := by decide +kernel
theorem dX0_addPledge_38 : decode cX0_addPledge 38 = .ok (.iastore, 1) := by decide +kernel
theorem dX0_addPledge_39 : decode cX0_addPledge 39 = .ok (.aload_n 0, 1) := by decide +kernel
theorem dX0_addPledge_40 : decode cX0_addPledge 40 = .ok (.getfield 18, 3) := by decide +kernel
theorem dX0_addPledge_43 : decode cX0_addPledge 43 = .ok (.iload 4, 2) := by decide +kernel
theorem dX0_addPledge_45 : decode cX0_addPledge 45 = .ok (.iaload, 1) := by decide +kernel
theorem dX0_addPledge_46 : decode cX0_addPledge 46 = .ok (.ireturn, 1) := by decide +kernel
set_option maxRecDepth 20000 in
theorem ggX0_dropPledge_X0_place : GoodIn wsX0_dropPledge wsX0_place := goodIn_r _ [7] (by decide +kernel) (by decide +kernel)
set_option maxRecDepth 20000 in
theorem gX0_dropPledge_X0_place : GoodIn wsX0_dropPledge (va_wsS RX0 101 yX0_place wsX0_place) := goodIn_app (goodIn_of _ (by decide +kernel)) ggX0_dropPledge_X0_place
set_option maxRecDepth 20000 in
theorem ggX0_dropPledge_X0_cover : GoodIn wsX0_dropPledge wsX0_cover := goodIn_r _ [11, 12, 13, 14, 6, 15, 16, 17, 18, 19, 20, 1, 21, 22, 23, 24, 25, 26, 27, 28, 29, 30, 31, 32, 33, 34, 35, 36, 37, 38, 39, 40] (by decide +kernel) (by decide +kernel)
set_option maxRecDepth 20000 in
theorem gX0_dropPledge_X0_cover : GoodIn wsX0_dropPledge (wsV RX0 94 RX0 yX0_cover wsX0_cover) := goodIn_app (goodIn_of _ (by decide +kernel)) ggX0_dropPledge_X0_cover
theorem dX0_dropPledge_0 : decode cX0_dropPledge 0 = .ok (.iload_n 1, 1) := by decide +kernel
theorem dX0_dropPledge_1 : decode cX0_dropPledge 1 = .ok (.iload_n 2, 1) := by decide +kernel
theorem dX0_dropPledge_2 : decode cX0_dropPledge 2 = .ok (.invokestatic 101, 3) := by decide +kernel
theorem dX0_dropPledge_5 : decode cX0_dropPledge 5 = .ok (.istore 4, 2) := by decide +kernel
theorem dX0_dropPledge_7 : decode cX0_dropPledge 7 = .ok (.iload_n 3, 1) := by decide +kernel
theorem dX0_dropPledge_8 : decode cX0_dropPledge 8 = .ok (.aload_n 0, 1) := by decide +kernel
theorem dX0_dropPledge_9 : decode cX0_dropPledge 9 = .ok (.getfield 18, 3) := by decide +kernel
theorem dX0_dropPledge_12 : decode cX0_dropPledge 12 = .ok (.iload 4, 2) := by decide +kernel
theorem dX0_dropPledge_14 : decode cX0_dropPledge 14 = .ok (.iaload, 1) := by decide +kernel
theorem dX0_dropPledge_15 : decode cX0_dropPledge 15 = .ok (.if_icmp .le 15, 3) := by decide +kernel
theorem dX0_dropPledge_18 : decode cX0_dropPledge 18 = .ok (.aload_n 0, 1) := by decide +kernel
theorem dX0_dropPledge_19 : decode cX0_dropPledge 19 = .ok (.dup, 1) := by decide +kernel
theorem dX0_dropPledge_20 : decode cX0_dropPledge 20 = .ok (.getfield 59, 3) := by decide +kernel
theorem dX0_dropPledge_23 : decode cX0_dropPledge 23 = .ok (.iconst 1, 1) := by decide +kernel
theorem dX0_dropPledge_24 : decode cX0_dropPledge 24 = .ok (.iadd, 1) := by decide +kernel
theorem dX0_dropPledge_25 : decode cX0_dropPledge 25 = .ok (.putfield 59, 3) := by decide +kernel
theorem dX0_dropPledge_28 : decode cX0_dropPledge 28 = .ok (.iconst 1, 1) := by decide +kernel
theorem dX0_dropPledge_29 : decode cX0_dropPledge 29 = .ok (.ireturn, 1) := by decide +kernel
theorem dX0_dropPledge_30 : decode cX0_dropPledge 30 = .ok (.aload_n 0, 1) := by decide +kernel
theorem dX0_dropPledge_31 : decode cX0_dropPledge 31 = .ok (.iload_n 2, 1) := by decide +kernel
theorem dX0_dropPledge_32 : decode cX0_dropPledge 32 = .ok (.invokevirtual 94, 3) := by decide +kernel
theorem dX0_dropPledge_35 : decode cX0_dropPledge 35 = .ok (.iload_n 3, 1) := by decide +kernel
theorem dX0_dropPledge_36 : decode cX0_dropPledge 36 = .ok (.isub, 1) := by decide +kernel
theorem dX0_dropPledge_37 : decode cX0_dropPledge 37 = .ok (.aload_n 0, 1) := by decide +kernel
theorem dX0_dropPledge_38 : decode cX0_dropPledge 38 = .ok (.getfield 21, 3) := by decide +kernel
theorem dX0_dropPledge_41 : decode cX0_dropPledge 41 = .ok (.iload_n 2, 1) := by decide +kernel
theorem dX0_dropPledge_42 : decode cX0_dropPledge 42 = .ok (.iaload, 1) := by decide +kernel
theorem dX0_dropPledge_43 : decode cX0_dropPledge 43 = .ok (.if_icmp .ge 15, 3) := by decide +kernel
theorem dX0_dropPledge_46 : decode cX0_dropPledge 46 = .ok (.aload_n 0, 1) := by decide +kernel
theorem dX0_dropPledge_47 : decode cX0_dropPledge 47 = .ok (.dup, 1) := by decide +kernel
theorem dX0_dropPledge_48 : decode cX0_dropPledge 48 = .ok (.getfield 59, 3) := by decide +kernel
theorem dX0_dropPledge_51 : decode cX0_dropPledge 51 = .ok (.iconst 1, 1) := by decide +kernel
theorem dX0_dropPledge_52 : decode cX0_dropPledge 52 = .ok (.iadd, 1) := by decide +kernel
theorem dX0_dropPledge_53 : decode cX0_dropPledge 53 = .ok (.putfield 59, 3) := by decide +kernel
theorem dX0_dropPledge_56 : decode cX0_dropPledge 56 = .ok (.iconst 2, 1) := by decide +kernel
theorem dX0_dropPledge_57 : decode cX0_dropPledge 57 = .ok (.ireturn, 1) := by decide +kernel
theorem dX0_dropPledge_58 : decode cX0_dropPledge 58 = .ok (.aload_n 0, 1) := by decide +kernel
theorem dX0_dropPledge_59 : decode cX0_dropPledge 59 = .ok (.getfield 18, 3) := by decide +kernel
theorem dX0_dropPledge_62 : decode cX0_dropPledge 62 = .ok (.iload 4, 2) := by decide +kernel
theorem dX0_dropPledge_64 : decode cX0_dropPledge 64 = .ok (.dup2, 1) := by decide +kernel
theorem dX0_dropPledge_65 : decode cX0_dropPledge 65 = .ok (.iaload, 1) := by decide +kernel
theorem dX0_dropPledge_66 : decode cX0_dropPledge 66 = .ok (.iload_n 3, 1) := by decide +kernel
theorem dX0_dropPledge_67 : decode cX0_dropPledge 67 = .ok (.isub, 1) := by decide +kernel
theorem dX0_dropPledge_68 : decode cX0_dropPledge 68 = .ok (.iastore, 1) := by decide +kernel
theorem dX0_dropPledge_69 : decode cX0_dropPledge 69 = .ok (.iconst 0, 1) := by decide +kernel
theorem dX0_dropPledge_70 : decode cX0_dropPledge 70 = .ok (.ireturn, 1) := by decide +kernel
theorem dX0_feeOf_0 : decode cX0_feeOf 0 = .ok (.iload_n 1, 1) := by decide +kernel
theorem dX0_feeOf_1 : decode cX0_feeOf 1 = .ok (.aload_n 0, 1) := by decide +kernel
theorem dX0_feeOf_2 : decode cX0_feeOf 2 = .ok (.getfield 33, 3) := by decide +kernel
theorem dX0_feeOf_5 : decode cX0_feeOf 5 = .ok (.iconst 0, 1) := by decide +kernel
theorem dX0_feeOf_6 : decode cX0_feeOf 6 = .ok (.iaload, 1) := by decide +kernel
theorem dX0_feeOf_7 : decode cX0_feeOf 7 = .ok (.imul, 1) := by decide +kernel
theorem dX0_feeOf_8 : decode cX0_feeOf 8 = .ok (.sipush 1000, 3) := by decide +kernel
theorem dX0_feeOf_11 : decode cX0_feeOf 11 = .ok (.idiv, 1) := by decide +kernel
theorem dX0_feeOf_12 : decode cX0_feeOf 12 = .ok (.ireturn, 1) := by decide +kernel
theorem dX0_threefold_0 : decode cX0_threefold 0 = .ok (.iconst 3, 1) := by decide +kernel
theorem dX0_threefold_1 : decode cX0_threefold 1 = .ok (.aload_n 0, 1) := by decide +kernel
theorem dX0_threefold_2 : decode cX0_threefold 2 = .ok (.getfield 9, 3) := by decide +kernel
theorem dX0_threefold_5 : decode cX0_threefold 5 = .ok (.iload_n 1, 1) := by decide +kernel
theorem dX0_threefold_6 : decode cX0_threefold 6 = .ok (.iaload, 1) := by decide +kernel
theorem dX0_threefold_7 : decode cX0_threefold 7 = .ok (.imul, 1) := by decide +kernel
theorem dX0_threefold_8 : decode cX0_threefold 8 = .ok (.ireturn, 1) := by decide +kernel
set_option maxRecDepth 20000 in
theorem ggX0_whyNoLoan_X0_hasLoan : GoodIn wsX0_whyNoLoan wsX0_hasLoan := goodIn_r _ [5, 6, 39, 40, 41, 42, 43, 44, 45, 46, 47, 48, 49, 50, 51, 52, 53, 54] (by decide +kernel) (by decide +kernel)
set_option maxRecDepth 20000 in
theorem gX0_whyNoLoan_X0_hasLoan : GoodIn wsX0_whyNoLoan (wsV RX0 77 RX0 yX0_hasLoan wsX0_hasLoan) := goodIn_app (goodIn_of _ (by decide +kernel)) ggX0_whyNoLoan_X0_hasLoan
set_option maxRecDepth 20000 in
theorem ggX0_whyNoLoan_X0_threefold : GoodIn wsX0_whyNoLoan wsX0_threefold := goodIn_r _ [10, 11, 39, 40, 41, 42, 43, 44, 45, 46, 47, 48, 49, 50, 51, 52, 53, 54] (by decide +kernel) (by decide +kernel)
set_option maxRecDepth 20000 in
theorem gX0_whyNoLoan_X0_threefold : GoodIn wsX0_whyNoLoan (wsV RX0 104 RX0 yX0_threefold wsX0_threefold) := goodIn_app (goodIn_of _ (by decide +kernel)) ggX0_whyNoLoan_X0_threefold
set_option maxRecDepth 20000 in
theorem ggX0_whyNoLoan_X0_cover : GoodIn wsX0_whyNoLoan wsX0_cover := goodIn_r _ [15, 16, 17, 18, 4, 19, 11, 20, 21, 22, 23, 24, 25, 26, 27, 28, 39, 40, 41, 42, 43, 44, 45, 46, 47, 48, 49, 50, 51, 52, 53, 54] (by decide +kernel) (by decide +kernel)
set_option maxRecDepth 20000 in
theorem gX0_whyNoLoan_X0_cover : GoodIn wsX0_whyNoLoan (wsV RX0 94 RX0 yX0_cover wsX0_cover) := goodIn_app (goodIn_of _ (by decide +kernel)) ggX0_whyNoLoan_X0_cover
set_option maxRecDepth 20000 in
theorem ggX0_whyNoLoan_X0_whyAbove : GoodIn wsX0_whyNoLoan wsX0_whyAbove := goodIn_r _ [32, 33, 34, 35, 36, 4, 37, 38, 39, 40, 41, 42, 43, 44, 45, 46, 47, 48, 49, 50, 51, 52, 53, 54] (by decide +kernel) (by decide +kernel)
set_option maxRecDepth 20000 in
theorem gX0_whyNoLoan_X0_whyAbove : GoodIn wsX0_whyNoLoan (wsV RX0 107 RX0 yX0_whyAbove wsX0_whyAbove) := goodIn_app (goodIn_of _ (by decide +kernel)) ggX0_whyNoLoan_X0_whyAbove
theorem dX0_whyNoLoan_0 : decode cX0_whyNoLoan 0 = .ok (.aload_n 0, 1) := by decide +kernel
theorem dX0_whyNoLoan_1 : decode cX0_whyNoLoan 1 = .ok (.iload_n 1, 1) := by decide +kernel
theorem dX0_whyNoLoan_2 : decode cX0_whyNoLoan 2 = .ok (.invokevirtual 77, 3) := by decide +kernel
theorem dX0_whyNoLoan_5 : decode cX0_whyNoLoan 5 = .ok (.ifCond .eq 5, 3) := by decide +kernel
theorem dX0_whyNoLoan_8 : decode cX0_whyNoLoan 8 = .ok (.iconst 1, 1) := by decide +kernel
theorem dX0_whyNoLoan_9 : decode cX0_whyNoLoan 9 = .ok (.ireturn, 1) := by decide +kernel
theorem dX0_whyNoLoan_10 : decode cX0_whyNoLoan 10 = .ok (.aload_n 0, 1) := by decide +kernel
theorem dX0_whyNoLoan_11 : decode cX0_whyNoLoan 11 = .ok (.aload_n 0, 1) := by decide +kernel
theorem dX0_whyNoLoan_12 : decode cX0_whyNoLoan 12 = .ok (.iload_n 1, 1) := by decide +kernel
theorem dX0_whyNoLoan_13 : decode cX0_whyNoLoan 13 = .ok (.invokevirtual 104, 3) := by decide +kernel
theorem dX0_whyNoLoan_16 : decode cX0_whyNoLoan 16 = .ok (.aload_n 0, 1) := by decide +kernel
theorem dX0_whyNoLoan_17 : decode cX0_whyNoLoan 17 = .ok (.iload_n 1, 1) := by decide +kernel
theorem dX0_whyNoLoan_18 : decode cX0_whyNoLoan 18 = .ok (.invokevirtual 94, 3) := by decide +kernel
theorem dX0_whyNoLoan_21 : decode cX0_whyNoLoan 21 = .ok (.iload_n 2, 1) := by decide +kernel
theorem dX0_whyNoLoan_22 : decode cX0_whyNoLoan 22 = .ok (.invokevirtual 107, 3) := by decide +kernel
theorem dX0_whyNoLoan_25 : decode cX0_whyNoLoan 25 = .ok (.ireturn, 1) := by decide +kernel
set_option maxRecDepth 20000 in
theorem ggX0_whyAbove_X0_feeOf : GoodIn wsX0_whyAbove wsX0_feeOf := goodIn_r _ [6, 7, 8, 9, 10, 11, 12, 13, 14, 15, 16, 17, 18, 19, 20, 21, 22, 23] (by decide +kernel) (by decide +kernel)
set_option maxRecDepth 20000 in
theorem gX0_whyAbove_X0_feeOf : GoodIn wsX0_whyAbove (wsV RX0 111 RX0 yX0_feeOf wsX0_feeOf) := goodIn_app (goodIn_of _ (by decide +kernel)) ggX0_whyAbove_X0_feeOf
theorem dX0_whyAbove_0 : decode cX0_whyAbove 0 = .ok (.iload_n 3, 1) := by decide +kernel
theorem dX0_whyAbove_1 : decode cX0_whyAbove 1 = .ok (.iload_n 1, 1) := by decide +kernel
theorem dX0_whyAbove_2 : decode cX0_whyAbove 2 = .ok (.if_icmp .le 5, 3) := by decide +kernel
theorem dX0_whyAbove_5 : decode cX0_whyAbove 5 = .ok (.iconst 2, 1) := by decide +kernel
theorem dX0_whyAbove_6 : decode cX0_whyAbove 6 = .ok (.ireturn, 1) := by decide +kernel
theorem dX0_whyAbove_7 : decode cX0_whyAbove 7 = .ok (.iload_n 3, 1) := by decide +kernel
theorem dX0_whyAbove_8 : decode cX0_whyAbove 8 = .ok (.iload_n 2, 1) := by decide +kernel
theorem dX0_whyAbove_9 : decode cX0_whyAbove 9 = .ok (.if_icmp .le 5, 3) := by decide +kernel
theorem dX0_whyAbove_12 : decode cX0_whyAbove 12 = .ok (.iconst 3, 1) := by decide +kernel
theorem dX0_whyAbove_13 : decode cX0_whyAbove 13 = .ok (.ireturn, 1) := by decide +kernel
theorem dX0_whyAbove_14 : decode cX0_whyAbove 14 = .ok (.aload_n 0, 1) := by decide +kernel
theorem dX0_whyAbove_15 : decode cX0_whyAbove 15 = .ok (.getfield 40, 3) := by decide +kernel
theorem dX0_whyAbove_18 : decode cX0_whyAbove 18 = .ok (.iload_n 3, 1) := by decide +kernel
theorem dX0_whyAbove_19 : decode cX0_whyAbove 19 = .ok (.aload_n 0, 1) := by decide +kernel
theorem dX0_whyAbove_20 : decode cX0_whyAbove 20 = .ok (.iload_n 3, 1) := by decide +kernel
theorem dX0_whyAbove_21 : decode cX0_whyAbove 21 = .ok (.invokevirtual 111, 3) := by decide +kernel
theorem dX0_whyAbove_24 : decode cX0_whyAbove 24 = .ok (.isub, 1) := by decide +kernel
theorem dX0_whyAbove_25 : decode cX0_whyAbove 25 = .ok (.if_icmp .ge 7, 3) := by decide +kernel
theorem dX0_whyAbove_28 : decode cX0_whyAbove 28 = .ok (.iconst 4, 1) := by decide +kernel
theorem dX0_whyAbove_29 : decode cX0_whyAbove 29 = .ok (.goto 4, 3) := by decide +kernel
theorem dX0_whyAbove_32 : decode cX0_whyAbove 32 = .ok (.iconst 0, 1) := by decide +kernel
theorem dX0_whyAbove_33 : decode cX0_whyAbove 33 = .ok (.ireturn, 1) := by decide +kernel
set_option maxRecDepth 20000 in
theorem ggX0_lend_X0_whyNoLoan : GoodIn wsX0_lend wsX0_whyNoLoan := goodIn_r _ [13, 14, 15, 16, 12, 17, 4, 18, 19, 20, 21, 22, 23, 24, 25, 26, 27, 28, 29, 30, 31, 32, 33, 34, 35, 36, 37, 38, 39, 40, 41, 42, 43, 2, 44, 45, 46, 47, 48, 49, 50, 51, 52, 53, 54, 55, 56, 57, 58, 59, 60, 61, 62, 63, 64] (by decide +kernel) (by decide +kernel)
set_option maxRecDepth 20000 in
theorem gX0_lend_X0_whyNoLoan : GoodIn wsX0_lend (wsV RX0 114 RX0 yX0_whyNoLoan wsX0_whyNoLoan) := goodIn_app (goodIn_of _ (by decide +kernel)) ggX0_lend_X0_whyNoLoan
set_option maxRecDepth 20000 in
theorem ggX0_lend_X0_feeOf : GoodIn wsX0_lend wsX0_feeOf := goodIn_r _ [47, 48, 49, 50, 51, 52, 53, 54, 55, 56, 57, 58, 59, 60, 61, 62, 63, 64] (by decide +kernel) (by decide +kernel)
set_option maxRecDepth 20000 in
theorem gX0_lend_X0_feeOf : GoodIn wsX0_lend (wsV RX0 111 RX0 yX0_feeOf wsX0_feeOf) := goodIn_app (goodIn_of _ (by decide +kernel)) ggX0_lend_X0_feeOf
theorem dX0_lend_0 : decode cX0_lend 0 = .ok (.aload_n 0, 1) := by decide +kernel
theorem dX0_lend_1 : decode cX0_lend 1 = .ok (.iload_n 1, 1) := by decide +kernel
theorem dX0_lend_2 : decode cX0_lend 2 = .ok (.iload_n 2, 1) := by decide +kernel
theorem dX0_lend_3 : decode cX0_lend 3 = .ok (.invokevirtual 114, 3) := by decide +kernel
theorem dX0_lend_6 : decode cX0_lend 6 = .ok (.istore 4, 2) := by decide +kernel
theorem dX0_lend_8 : decode cX0_lend 8 = .ok (.iload 4, 2) := by decide +kernel
theorem dX0_lend_10 : decode cX0_lend 10 = .ok (.ifCond .eq 16, 3) := by decide +kernel
theorem dX0_lend_13 : decode cX0_lend 13 = .ok (.aload_n 0, 1) := by decide +kernel
theorem dX0_lend_14 : decode cX0_lend 14 = .ok (.dup, 1) := by decide +kernel
theorem dX0_lend_15 : decode cX0_lend 15 = .ok (.getfield 59, 3) := by decide +kernel
theorem dX0_lend_18 : decode cX0_lend 18 = .ok (.iconst 1, 1) := by decide +kernel
theorem dX0_lend_19 : decode cX0_lend 19 = .ok (.iadd, 1) := by decide +kernel
theorem dX0_lend_20 : decode cX0_lend 20 = .ok (.putfield 59, 3) := by decide +kernel
theorem dX0_lend_23 : decode cX0_lend 23 = .ok (.iload 4, 2) := by decide +kernel
theorem dX0_lend_25 : decode cX0_lend 25 = .ok (.ireturn, 1) := by decide +kernel
theorem dX0_lend_26 : decode cX0_lend 26 = .ok (.aload_n 0, 1) := by decide +kernel
theorem dX0_lend_27 : decode cX0_lend 27 = .ok (.iload_n 2, 1) := by decide +kernel
theorem dX0_lend_28 : decode cX0_lend 28 = .ok (.invokevirtual 111, 3) := by decide +kernel
theorem dX0_lend_31 : decode cX0_lend 31 = .ok (.istore 5, 2) := by decide +kernel
theorem dX0_lend_33 : decode cX0_lend 33 = .ok (.aload_n 0, 1) := by decide +kernel
theorem dX0_lend_34 : decode cX0_lend 34 = .ok (.dup, 1) := by decide +kernel
theorem dX0_lend_35 : decode cX0_lend 35 = .ok (.getfield 40, 3) := by decide +kernel
theorem dX0_lend_38 : decode cX0_lend 38 = .ok (.iload_n 2, 1) := by decide +kernel
theorem dX0_lend_39 : decode cX0_lend 39 = .ok (.iload 5, 2) := by decide +kernel
theorem dX0_lend_41 : decode cX0_lend 41 = .ok (.isub, 1) := by decide +kernel
theorem dX0_lend_42 : decode cX0_lend 42 = .ok (.isub, 1) := by decide +kernel
theorem dX0_lend_43 : decode cX0_lend 43 = .ok (.putfield 40, 3) := by decide +kernel
theorem dX0_lend_46 : decode cX0_lend 46 = .ok (.aload_n 0, 1) := by decide +kernel
theorem dX0_lend_47 : decode cX0_lend 47 = .ok (.dup, 1) := by decide +kernel
theorem dX0_lend_48 : decode cX0_lend 48 = .ok (.getfield 44, 3) := by decide +kernel
theorem dX0_lend_51 : decode cX0_lend 51 = .ok (.iload 5, 2) := by decide +kernel
theorem dX0_lend_53 : decode cX0_lend 53 = .ok (.iadd, 1) := by decide +kernel
theorem dX0_lend_54 : decode cX0_lend 54 = .ok (.putfield 44, 3) := by decide +kernel
theorem dX0_lend_57 : decode cX0_lend 57 = .ok (.aload_n 0, 1) := by decide +kernel
theorem dX0_lend_58 : decode cX0_lend 58 = .ok (.getfield 21, 3) := by decide +kernel
theorem dX0_lend_61 : decode cX0_lend 61 = .ok (.iload_n 1, 1) := by decide +kernel
theorem dX0_lend_62 : decode cX0_lend 62 = .ok (.iload_n 2, 1) := by decide +kernel
theorem dX0_lend_63 : decode cX0_lend 63 = .ok (.iastore, 1) := by decide +kernel
theorem dX0_lend_64 : decode cX0_lend 64 = .ok (.aload_n 0, 1) := by decide +kernel
theorem dX0_lend_65 : decode cX0_lend 65 = .ok (.getfield 24, 3) := by decide +kernel
theorem dX0_lend_68 : decode cX0_lend 68 = .ok (.iload_n 1, 1) := by decide +kernel
theorem dX0_lend_69 : decode cX0_lend 69 = .ok (.iload_n 2, 1) := by decide +kernel
theorem dX0_lend_70 : decode cX0_lend 70 = .ok (.iload_n 3, 1) := by decide +kernel
theorem dX0_lend_71 : decode cX0_lend 71 = .ok (.iadd, 1) := by decide +kernel
theorem dX0_lend_72 : decode cX0_lend 72 = .ok (.iconst 1, 1) := by decide +kernel
theorem dX0_lend_73 : decode cX0_lend 73 = .ok (.isub, 1) := by decide +kernel
theorem dX0_lend_74 : decode cX0_lend 74 = .ok (.iload_n 3, 1) := by decide +kernel
theorem dX0_lend_75 : decode cX0_lend 75 = .ok (.idiv, 1) := by decide +kernel
theorem dX0_lend_76 : decode cX0_lend 76 = .ok (.iastore, 1) := by decide +kernel
theorem dX0_lend_77 : decode cX0_lend 77 = .ok (.aload_n 0, 1) := by decide +kernel
theorem dX0_lend_78 : decode cX0_lend 78 = .ok (.getfield 27, 3) := by decide +kernel
theorem dX0_lend_81 : decode cX0_lend 81 = .ok (.iload_n 1, 1) := by decide +kernel
theorem dX0_lend_82 : decode cX0_lend 82 = .ok (.iconst 0, 1) := by decide +kernel
theorem dX0_lend_83 : decode cX0_lend 83 = .ok (.iastore, 1) := by decide +kernel
theorem dX0_lend_84 : decode cX0_lend 84 = .ok (.aload_n 0, 1) := by decide +kernel
theorem dX0_lend_85 : decode cX0_lend 85 = .ok (.getfield 30, 3) := by decide +kernel
theorem dX0_lend_88 : decode cX0_lend 88 = .ok (.iload_n 1, 1) := by decide +kernel
theorem dX0_lend_89 : decode cX0_lend 89 = .ok (.iconst 0, 1) := by decide +kernel
theorem dX0_lend_90 : decode cX0_lend 90 = .ok (.iastore, 1) := by decide +kernel
theorem dX0_lend_91 : decode cX0_lend 91 = .ok (.aload_n 0, 1) := by decide +kernel
theorem dX0_lend_92 : decode cX0_lend 92 = .ok (.dup, 1) := by decide +kernel
theorem dX0_lend_93 : decode cX0_lend 93 = .ok (.getfield 47, 3) := by decide +kernel
theorem dX0_lend_96 : decode cX0_lend 96 = .ok (.iconst 1, 1) := by decide +kernel
theorem dX0_lend_97 : decode cX0_lend 97 = .ok (.iadd, 1) := by decide +kernel
theorem dX0_lend_98 : decode cX0_lend 98 = .ok (.putfield 47, 3) := by decide +kernel
theorem dX0_lend_101 : decode cX0_lend 101 = .ok (.iconst 0, 1) := by decide +kernel
theorem dX0_lend_102 : decode cX0_lend 102 = .ok (.ireturn, 1) := by decide +kernel
theorem dX0_takeBack_0 : decode cX0_takeBack 0 = .ok (.iload_n 2, 1) := by decide +kernel
theorem dX0_takeBack_1 : decode cX0_takeBack 1 = .ok (.aload_n 0, 1) := by decide +kernel
theorem dX0_takeBack_2 : decode cX0_takeBack 2 = .ok (.getfield 21, 3) := by decide +kernel
theorem dX0_takeBack_5 : decode cX0_takeBack 5 = .ok (.iload_n 1, 1) := by decide +kernel
theorem dX0_takeBack_6 : decode cX0_takeBack 6 = .ok (.iaload, 1) := by decide +kernel
theorem dX0_takeBack_7 : decode cX0_takeBack 7 = .ok (.if_icmp .le 15, 3) := by decide +kernel
theorem dX0_takeBack_10 : decode cX0_takeBack 10 = .ok (.aload_n 0, 1) := by decide +kernel
theorem dX0_takeBack_11 : decode cX0_takeBack 11 = .ok (.dup, 1) := by decide +kernel
theorem dX0_takeBack_12 : decode cX0_takeBack 12 = .ok (.getfield 59, 3) := by decide +kernel
theorem dX0_takeBack_15 : decode cX0_takeBack 15 = .ok (.iconst 1, 1) := by decide +kernel
theorem dX0_takeBack_16 : decode cX0_takeBack 16 = .ok (.iadd, 1) := by decide +kernel
theorem dX0_takeBack_17 : decode cX0_takeBack 17 = .ok (.putfield 59, 3) := by decide +kernel
theorem dX0_takeBack_20 : decode cX0_takeBack 20 = .ok (.iconst (-1), 1) := by decide +kernel
theorem dX0_takeBack_21 : decode cX0_takeBack 21 = .ok (.ireturn, 1) := by decide +kernel
theorem dX0_takeBack_22 : decode cX0_takeBack 22 = .ok (.aload_n 0, 1) := by decide +kernel
theorem dX0_takeBack_23 : decode cX0_takeBack 23 = .ok (.dup, 1) := by decide +kernel
theorem dX0_takeBack_24 : decode cX0_takeBack 24 = .ok (.getfield 40, 3) := by decide +kernel
theorem dX0_takeBack_27 : decode cX0_takeBack 27 = .ok (.iload_n 2, 1) := by decide +kernel
theorem dX0_takeBack_28 : decode cX0_takeBack 28 = .ok (.iadd, 1) := by decide +kernel
theorem dX0_takeBack_29 : decode cX0_takeBack 29 = .ok (.putfield 40, 3) := by decide +kernel
theorem dX0_takeBack_32 : decode cX0_takeBack 32 = .ok (.aload_n 0, 1) := by decide +kernel
theorem dX0_takeBack_33 : decode cX0_takeBack 33 = .ok (.getfield 21, 3) := by decide +kernel
theorem dX0_takeBack_36 : decode cX0_takeBack 36 = .ok (.iload_n 1, 1) := by decide +kernel
theorem dX0_takeBack_37 : decode cX0_takeBack 37 = .ok (.dup2, 1) := by decide +kernel
theorem dX0_takeBack_38 : decode cX0_takeBack 38 = .ok (.iaload, 1) := by decide +kernel
theorem dX0_takeBack_39 : decode cX0_takeBack 39 = .ok (.iload_n 2, 1) := by decide +kernel
theorem dX0_takeBack_40 : decode cX0_takeBack 40 = .ok (.isub, 1) := by decide +kernel
theorem dX0_takeBack_41 : decode cX0_takeBack 41 = .ok (.iastore, 1) := by decide +kernel
theorem dX0_takeBack_42 : decode cX0_takeBack 42 = .ok (.aload_n 0, 1) := by decide +kernel
theorem dX0_takeBack_43 : decode cX0_takeBack 43 = .ok (.getfield 27, 3) := by decide +kernel
theorem dX0_takeBack_46 : decode cX0_takeBack 46 = .ok (.iload_n 1, 1) := by decide +kernel
theorem dX0_takeBack_47 : decode cX0_takeBack 47 = .ok (.dup2, 1) := by decide +kernel
theorem dX0_takeBack_48 : decode cX0_takeBack 48 = .ok (.iaload, 1) := by decide +kernel
theorem dX0_takeBack_49 : decode cX0_takeBack 49 = .ok (.iload_n 2, 1) := by decide +kernel
theorem dX0_takeBack_50 : decode cX0_takeBack 50 = .ok (.iadd, 1) := by decide +kernel
theorem dX0_takeBack_51 : decode cX0_takeBack 51 = .ok (.iastore, 1) := by decide +kernel
theorem dX0_takeBack_52 : decode cX0_takeBack 52 = .ok (.aload_n 0, 1) := by decide +kernel
theorem dX0_takeBack_53 : decode cX0_takeBack 53 = .ok (.getfield 21, 3) := by decide +kernel
theorem dX0_takeBack_56 : decode cX0_takeBack 56 = .ok (.iload_n 1, 1) := by decide +kernel
theorem dX0_takeBack_57 : decode cX0_takeBack 57 = .ok (.iaload, 1) := by decide +kernel
theorem dX0_takeBack_58 : decode cX0_takeBack 58 = .ok (.ireturn, 1) := by decide +kernel
theorem dX0_weeksByWeeks_0 : decode cX0_weeksByWeeks 0 = .ok (.aload_n 0, 1) := by decide +kernel
theorem dX0_weeksByWeeks_1 : decode cX0_weeksByWeeks 1 = .ok (.getfield 21, 3) := by decide +kernel
theorem dX0_weeksByWeeks_4 : decode cX0_weeksByWeeks 4 = .ok (.iload_n 1, 1) := by decide +kernel
theorem dX0_weeksByWeeks_5 : decode cX0_weeksByWeeks 5 = .ok (.iaload, 1) := by decide +kernel
theorem dX0_weeksByWeeks_6 : decode cX0_weeksByWeeks 6 = .ok (.istore_n 2, 1) := by decide +kernel
theorem dX0_weeksByWeeks_7 : decode cX0_weeksByWeeks 7 = .ok (.iconst 0, 1) := by decide +kernel
theorem dX0_weeksByWeeks_8 : decode cX0_weeksByWeeks 8 = .ok (.istore_n 3, 1) := by decide +kernel
theorem dX0_weeksByWeeks_9 : decode cX0_weeksByWeeks 9 = .ok (.iload_n 2, 1) := by decide +kernel
theorem dX0_weeksByWeeks_10 : decode cX0_weeksByWeeks 10 = .ok (.ifCond .le 29, 3) := by decide +kernel
theorem dX0_weeksByWeeks_13 : decode cX0_weeksByWeeks 13 = .ok (.iload_n 3, 1) := by decide +kernel
theorem dX0_weeksByWeeks_14 : decode cX0_weeksByWeeks 14 = .ok (.sipush 9999, 3) := by decide +kernel
theorem dX0_weeksByWeeks_17 : decode cX0_weeksByWeeks 17 = .ok (.if_icmp .ge 22, 3) := by decide +kernel
theorem dX0_weeksByWeeks_20 : decode cX0_weeksByWeeks 20 = .ok (.iload_n 2, 1) := by decide +kernel
theorem dX0_weeksByWeeks_21 : decode cX0_weeksByWeeks 21 = .ok (.iload_n 2, 1) := by decide +kernel
theorem dX0_weeksByWeeks_22 : decode cX0_weeksByWeeks 22 = .ok (.aload_n 0, 1) := by decide +kernel
theorem dX0_weeksByWeeks_23 : decode cX0_weeksByWeeks 23 = .ok (.getfield 24, 3) := by decide +kernel
theorem dX0_weeksByWeeks_26 : decode cX0_weeksByWeeks 26 = .ok (.iload_n 1, 1) := by decide +kernel
theorem dX0_weeksByWeeks_27 : decode cX0_weeksByWeeks 27 = .ok (.iaload, 1) := by decide +kernel
theorem dX0_weeksByWeeks_28 : decode cX0_weeksByWeeks 28 = .ok (.invokestatic 65, 3) := by decide +kernel
theorem dX0_weeksByWeeks_31 : decode cX0_weeksByWeeks 31 = .ok (.isub, 1) := by decide +kernel
theorem dX0_weeksByWeeks_32 : decode cX0_weeksByWeeks 32 = .ok (.istore_n 2, 1) := by decide +kernel
theorem dX0_weeksByWeeks_33 : decode cX0_weeksByWeeks 33 = .ok (.iinc 3 1, 3) := by decide +kernel
theorem dX0_weeksByWeeks_36 : decode cX0_weeksByWeeks 36 = .ok (.goto (-27), 3) := by decide +kernel
theorem dX0_weeksByWeeks_39 : decode cX0_weeksByWeeks 39 = .ok (.iload_n 3, 1) := by decide +kernel
theorem dX0_weeksByWeeks_40 : decode cX0_weeksByWeeks 40 = .ok (.ireturn, 1) := by decide +kernel
set_option maxRecDepth 20000 in
theorem ggX0_weeksAtOnce_X0_hasLoan : GoodIn wsX0_weeksAtOnce wsX0_hasLoan := goodIn_r _ [7, 2, 8, 9, 10, 11, 12, 13, 14, 15, 16, 17, 18, 19, 20, 21, 22, 23] (by decide +kernel) (by decide +kernel)
set_option maxRecDepth 20000 in
theorem gX0_weeksAtOnce_X0_hasLoan : GoodIn wsX0_weeksAtOnce (wsV RX0 77 RX0 yX0_hasLoan wsX0_hasLoan) := goodIn_app (goodIn_of _ (by decide +kernel)) ggX0_weeksAtOnce_X0_hasLoan
theorem dX0_weeksAtOnce_0 : decode cX0_weeksAtOnce 0 = .ok (.aload_n 0, 1) := by decide +kernel
theorem dX0_weeksAtOnce_1 : decode cX0_weeksAtOnce 1 = .ok (.getfield 24, 3) := by decide +kernel
theorem dX0_weeksAtOnce_4 : decode cX0_weeksAtOnce 4 = .ok (.iload_n 1, 1) := by decide +kernel
theorem dX0_weeksAtOnce_5 : decode cX0_weeksAtOnce 5 = .ok (.iaload, 1) := by decide +kernel
theorem dX0_weeksAtOnce_6 : decode cX0_weeksAtOnce 6 = .ok (.istore_n 2, 1) := by decide +kernel
theorem dX0_weeksAtOnce_7 : decode cX0_weeksAtOnce 7 = .ok (.aload_n 0, 1) := by decide +kernel
theorem dX0_weeksAtOnce_8 : decode cX0_weeksAtOnce 8 = .ok (.iload_n 1, 1) := by decide +kernel
theorem dX0_weeksAtOnce_9 : decode cX0_weeksAtOnce 9 = .ok (.invokevirtual 77, 3) := by decide +kernel
theorem dX0_weeksAtOnce_12 : decode cX0_weeksAtOnce 12 = .ok (.ifCond .eq 8, 3) := by decide +kernel
theorem dX0_weeksAtOnce_15 : decode cX0_weeksAtOnce 15 = .ok (.iload_n 2, 1) := by decide +kernel
theorem dX0_weeksAtOnce_16 : decode cX0_weeksAtOnce 16 = .ok (.iconst 1, 1) := by decide +kernel
theorem dX0_weeksAtOnce_17 : decode cX0_weeksAtOnce 17 = .ok (.if_icmp .ge 5, 3) := by decide +kernel
theorem dX0_weeksAtOnce_20 : decode cX0_weeksAtOnce 20 = .ok (.iconst 0, 1) := by decide +kernel
theorem dX0_weeksAtOnce_21 : decode cX0_weeksAtOnce 21 = .ok (.ireturn, 1) := by decide +kernel
theorem dX0_weeksAtOnce_22 : decode cX0_weeksAtOnce 22 = .ok (.aload_n 0, 1) := by decide +kernel
theorem dX0_weeksAtOnce_23 : decode cX0_weeksAtOnce 23 = .ok (.getfield 21, 3) := by decide +kernel
theorem dX0_weeksAtOnce_26 : decode cX0_weeksAtOnce 26 = .ok (.iload_n 1, 1) := by decide +kernel
theorem dX0_weeksAtOnce_27 : decode cX0_weeksAtOnce 27 = .ok (.iaload, 1) := by decide +kernel
theorem dX0_weeksAtOnce_28 : decode cX0_weeksAtOnce 28 = .ok (.iload_n 2, 1) := by decide +kernel
theorem dX0_weeksAtOnce_29 : decode cX0_weeksAtOnce 29 = .ok (.iadd, 1) := by decide +kernel
theorem dX0_weeksAtOnce_30 : decode cX0_weeksAtOnce 30 = .ok (.iconst 1, 1) := by decide +kernel
theorem dX0_weeksAtOnce_31 : decode cX0_weeksAtOnce 31 = .ok (.isub, 1) := by decide +kernel
theorem dX0_weeksAtOnce_32 : decode cX0_weeksAtOnce 32 = .ok (.iload_n 2, 1) := by decide +kernel
theorem dX0_weeksAtOnce_33 : decode cX0_weeksAtOnce 33 = .ok (.idiv, 1) := by decide +kernel
theorem dX0_weeksAtOnce_34 : decode cX0_weeksAtOnce 34 = .ok (.ireturn, 1) := by decide +kernel
set_option maxRecDepth 20000 in
theorem ggX0_mostAtStake_X0_ownLeft : GoodIn wsX0_mostAtStake wsX0_ownLeft := goodIn_r _ [6, 7, 8, 9, 10, 5, 11, 12, 17, 18, 19, 20, 21, 22, 23, 24, 25, 26, 27, 28, 29, 30, 31, 32] (by decide +kernel) (by decide +kernel)
set_option maxRecDepth 20000 in
theorem gX0_mostAtStake_X0_ownLeft : GoodIn wsX0_mostAtStake (wsV RX0 85 RX0 yX0_ownLeft wsX0_ownLeft) := goodIn_app (goodIn_of _ (by decide +kernel)) ggX0_mostAtStake_X0_ownLeft
set_option maxRecDepth 20000 in
theorem ggX0_mostAtStake_X0_hasLoan : GoodIn wsX0_mostAtStake wsX0_hasLoan := goodIn_r _ [16, 1, 17, 18, 19, 20, 21, 22, 23, 24, 25, 26, 27, 28, 29, 30, 31, 32] (by decide +kernel) (by decide +kernel)
set_option maxRecDepth 20000 in
theorem gX0_mostAtStake_X0_hasLoan : GoodIn wsX0_mostAtStake (wsV RX0 77 RX0 yX0_hasLoan wsX0_hasLoan) := goodIn_app (goodIn_of _ (by decide +kernel)) ggX0_mostAtStake_X0_hasLoan
theorem dX0_mostAtStake_0 : decode cX0_mostAtStake 0 = .ok (.iconst (-1), 1) := by decide +kernel
theorem dX0_mostAtStake_1 : decode cX0_mostAtStake 1 = .ok (.istore_n 1, 1) := by decide +kernel
theorem dX0_mostAtStake_2 : decode cX0_mostAtStake 2 = .ok (.iconst 0, 1) := by decide +kernel
theorem dX0_mostAtStake_3 : decode cX0_mostAtStake 3 = .ok (.istore_n 2, 1) := by decide +kernel
theorem dX0_mostAtStake_4 : decode cX0_mostAtStake 4 = .ok (.iconst 0, 1) := by decide +kernel
theorem dX0_mostAtStake_5 : decode cX0_mostAtStake 5 = .ok (.istore_n 3, 1) := by decide +kernel
theorem dX0_mostAtStake_6 : decode cX0_mostAtStake 6 = .ok (.iload_n 3, 1) := by decide +kernel
theorem dX0_mostAtStake_7 : decode cX0_mostAtStake 7 = .ok (.bipush 6, 2) := by decide +kernel
theorem dX0_mostAtStake_9 : decode cX0_mostAtStake 9 = .ok (.if_icmp .ge 42, 3) := by decide +kernel
theorem dX0_mostAtStake_12 : decode cX0_mostAtStake 12 = .ok (.aload_n 0, 1) := by decide +kernel
theorem dX0_mostAtStake_13 : decode cX0_mostAtStake 13 = .ok (.getfield 21, 3) := by decide +kernel
theorem dX0_mostAtStake_16 : decode cX0_mostAtStake 16 = .ok (.iload_n 3, 1) := by decide +kernel
theorem dX0_mostAtStake_17 : decode cX0_mostAtStake 17 = .ok (.iaload, 1) := by decide +kernel
theorem dX0_mostAtStake_18 : decode cX0_mostAtStake 18 = .ok (.aload_n 0, 1) := by decide +kernel
theorem dX0_mostAtStake_19 : decode cX0_mostAtStake 19 = .ok (.iload_n 3, 1) := by decide +kernel
theorem dX0_mostAtStake_20 : decode cX0_mostAtStake 20 = .ok (.invokevirtual 85, 3) := by decide +kernel
theorem dX0_mostAtStake_23 : decode cX0_mostAtStake 23 = .ok (.isub, 1) := by decide +kernel
theorem dX0_mostAtStake_24 : decode cX0_mostAtStake 24 = .ok (.istore 4, 2) := by decide +kernel
theorem dX0_mostAtStake_26 : decode cX0_mostAtStake 26 = .ok (.aload_n 0, 1) := by decide +kernel
theorem dX0_mostAtStake_27 : decode cX0_mostAtStake 27 = .ok (.iload_n 3, 1) := by decide +kernel
theorem dX0_mostAtStake_28 : decode cX0_mostAtStake 28 = .ok (.invokevirtual 77, 3) := by decide +kernel
theorem dX0_mostAtStake_31 : decode cX0_mostAtStake 31 = .ok (.ifCond .eq 14, 3) := by decide +kernel
theorem dX0_mostAtStake_34 : decode cX0_mostAtStake 34 = .ok (.iload 4, 2) := by decide +kernel
theorem dX0_mostAtStake_36 : decode cX0_mostAtStake 36 = .ok (.iload_n 2, 1) := by decide +kernel
theorem dX0_mostAtStake_37 : decode cX0_mostAtStake 37 = .ok (.if_icmp .le 8, 3) := by decide +kernel
theorem dX0_mostAtStake_40 : decode cX0_mostAtStake 40 = .ok (.iload 4, 2) := by decide +kernel
theorem dX0_mostAtStake_42 : decode cX0_mostAtStake 42 = .ok (.istore_n 2, 1) := by decide +kernel
theorem dX0_mostAtStake_43 : decode cX0_mostAtStake 43 = .ok (.iload_n 3, 1) := by decide +kernel
theorem dX0_mostAtStake_44 : decode cX0_mostAtStake 44 = .ok (.istore_n 1, 1) := by decide +kernel
theorem dX0_mostAtStake_45 : decode cX0_mostAtStake 45 = .ok (.iinc 3 1, 3) := by decide +kernel
theorem dX0_mostAtStake_48 : decode cX0_mostAtStake 48 = .ok (.goto (-42), 3) := by decide +kernel
theorem dX0_mostAtStake_51 : decode cX0_mostAtStake 51 = .ok (.iload_n 1, 1) := by decide +kernel
theorem dX0_mostAtStake_52 : decode cX0_mostAtStake 52 = .ok (.ireturn, 1) := by decide +kernel
set_option maxRecDepth 20000 in
theorem ggX0_lentPart_X0_allShares : GoodIn wsX0_lentPart wsX0_allShares := goodIn_r _ [5, 6, 12, 13, 14, 15, 16, 17, 18, 19, 20, 21, 22, 23, 24, 25, 26, 27] (by decide +kernel) (by decide +kernel)
set_option maxRecDepth 20000 in
theorem gX0_lentPart_X0_allShares : GoodIn wsX0_lentPart (wsV RX0 117 RX0 yX0_allShares wsX0_allShares) := goodIn_app (goodIn_of _ (by decide +kernel)) ggX0_lentPart_X0_allShares
set_option maxRecDepth 20000 in
theorem ggX0_lentPart_X0_allRests : GoodIn wsX0_lentPart wsX0_allRests := goodIn_r _ [10, 11, 12, 13, 14, 15, 16, 17, 18, 19, 20, 21, 22, 23, 24, 25, 26, 27] (by decide +kernel) (by decide +kernel)
set_option maxRecDepth 20000 in
theorem gX0_lentPart_X0_allRests : GoodIn wsX0_lentPart (wsV RX0 121 RX0 yX0_allRests wsX0_allRests) := goodIn_app (goodIn_of _ (by decide +kernel)) ggX0_lentPart_X0_allRests
theorem dX0_lentPart_0 : decode cX0_lentPart 0 = .ok (.aload_n 0, 1) := by decide +kernel
theorem dX0_lentPart_1 : decode cX0_lentPart 1 = .ok (.invokevirtual 117, 3) := by decide +kernel
theorem dX0_lentPart_4 : decode cX0_lentPart 4 = .ok (.istore_n 1, 1) := by decide +kernel
theorem dX0_lentPart_5 : decode cX0_lentPart 5 = .ok (.iload_n 1, 1) := by decide +kernel
theorem dX0_lentPart_6 : decode cX0_lentPart 6 = .ok (.iconst 1, 1) := by decide +kernel
theorem dX0_lentPart_7 : decode cX0_lentPart 7 = .ok (.if_icmp .ge 7, 3) := by decide +kernel
theorem dX0_lentPart_10 : decode cX0_lentPart 10 = .ok (.dconst 0, 1) := by decide +kernel
theorem dX0_lentPart_11 : decode cX0_lentPart 11 = .ok (.goto 11, 3) := by decide +kernel
theorem dX0_lentPart_14 : decode cX0_lentPart 14 = .ok (.aload_n 0, 1) := by decide +kernel
theorem dX0_lentPart_15 : decode cX0_lentPart 15 = .ok (.invokevirtual 121, 3) := by decide +kernel
theorem dX0_lentPart_18 : decode cX0_lentPart 18 = .ok (.i2d, 1) := by decide +kernel
theorem dX0_lentPart_19 : decode cX0_lentPart 19 = .ok (.iload_n 1, 1) := by decide +kernel
theorem dX0_lentPart_20 : decode cX0_lentPart 20 = .ok (.i2d, 1) := by decide +kernel
theorem dX0_lentPart_21 : decode cX0_lentPart 21 = .ok (.ddiv, 1) := by decide +kernel
theorem dX0_lentPart_22 : decode cX0_lentPart 22 = .ok (.dreturn, 1) := by decide +kernel
theorem dX0_canEndWeek_0 : decode cX0_canEndWeek 0 = .ok (.aload_n 0, 1) := by decide +kernel
theorem dX0_canEndWeek_1 : decode cX0_canEndWeek 1 = .ok (.getfield 53, 3) := by decide +kernel
theorem dX0_canEndWeek_4 : decode cX0_canEndWeek 4 = .ok (.sipush 9999, 3) := by decide +kernel
theorem dX0_canEndWeek_7 : decode cX0_canEndWeek 7 = .ok (.if_icmp .ge 7, 3) := by decide +kernel
theorem dX0_canEndWeek_10 : decode cX0_canEndWeek 10 = .ok (.iconst 1, 1) := by decide +kernel
theorem dX0_canEndWeek_11 : decode cX0_canEndWeek 11 = .ok (.goto 4, 3) := by decide +kernel
theorem dX0_canEndWeek_14 : decode cX0_canEndWeek 14 = .ok (.iconst 0, 1) := by decide +kernel
theorem dX0_canEndWeek_15 : decode cX0_canEndWeek 15 = .ok (.ireturn, 1) := by decide +kernel
set_option maxRecDepth 20000 in
theorem ggX0_endWeek_X0_hasLoan : GoodIn wsX0_endWeek wsX0_hasLoan := goodIn_r _ [7, 8, 38, 39, 40, 41, 42, 43, 44, 45, 46, 47, 48, 49, 50, 51, 52, 53] (by decide +kernel) (by decide +kernel)
set_option maxRecDepth 20000 in
theorem gX0_endWeek_X0_hasLoan : GoodIn wsX0_endWeek (wsV RX0 77 RX0 yX0_hasLoan wsX0_hasLoan) := goodIn_app (goodIn_of _ (by decide +kernel)) ggX0_endWeek_X0_hasLoan
set_option maxRecDepth 20000 in
theorem ggX0_endWeek_X0_endWeekOf : GoodIn wsX0_endWeek wsX0_endWeekOf := goodIn_r _ [12, 13, 14, 15, 16, 17, 18, 19, 6, 20, 8, 21, 22, 23, 24, 25, 26, 27, 28, 29, 30, 31, 32, 33, 34, 35, 36, 37, 38, 39, 40, 41, 42, 43, 44, 45, 46, 47, 48, 49, 50, 51, 52, 53] (by decide +kernel) (by decide +kernel)
set_option maxRecDepth 20000 in
theorem gX0_endWeek_X0_endWeekOf : GoodIn wsX0_endWeek (wsV RX0 124 RX0 yX0_endWeekOf wsX0_endWeekOf) := goodIn_app (goodIn_of _ (by decide +kernel)) ggX0_endWeek_X0_endWeekOf
theorem dX0_endWeek_0 : decode cX0_endWeek 0 = .ok (.iconst 0, 1) := by decide +kernel
theorem dX0_endWeek_1 : decode cX0_endWeek 1 = .ok (.istore_n 1, 1) := by decide +kernel
theorem dX0_endWeek_2 : decode cX0_endWeek 2 = .ok (.iconst 0, 1) := by decide +kernel
theorem dX0_endWeek_3 : decode cX0_endWeek 3 = .ok (.istore_n 2, 1) := by decide +kernel
theorem dX0_endWeek_4 : decode cX0_endWeek 4 = .ok (.iload_n 2, 1) := by decide +kernel
theorem dX0_endWeek_5 : decode cX0_endWeek 5 = .ok (.bipush 6, 2) := by decide +kernel
theorem dX0_endWeek_7 : decode cX0_endWeek 7 = .ok (.if_icmp .ge 28, 3) := by decide +kernel
theorem dX0_endWeek_10 : decode cX0_endWeek 10 = .ok (.aload_n 0, 1) := by decide +kernel
theorem dX0_endWeek_11 : decode cX0_endWeek 11 = .ok (.iload_n 2, 1) := by decide +kernel
theorem dX0_endWeek_12 : decode cX0_endWeek 12 = .ok (.invokevirtual 77, 3) := by decide +kernel
theorem dX0_endWeek_15 : decode cX0_endWeek 15 = .ok (.ifCond .eq 14, 3) := by decide +kernel
theorem dX0_endWeek_18 : decode cX0_endWeek 18 = .ok (.aload_n 0, 1) := by decide +kernel
theorem dX0_endWeek_19 : decode cX0_endWeek 19 = .ok (.iload_n 2, 1) := by decide +kernel
theorem dX0_endWeek_20 : decode cX0_endWeek 20 = .ok (.invokevirtual 124, 3) := by decide +kernel
theorem dX0_endWeek_23 : decode cX0_endWeek 23 = .ok (.ifCond .eq 6, 3) := by decide +kernel
theorem dX0_endWeek_26 : decode cX0_endWeek 26 = .ok (.iinc 1 1, 3) := by decide +kernel
theorem dX0_endWeek_29 : decode cX0_endWeek 29 = .ok (.iinc 2 1, 3) := by decide +kernel
theorem dX0_endWeek_32 : decode cX0_endWeek 32 = .ok (.goto (-28), 3) := by decide +kernel
theorem dX0_endWeek_35 : decode cX0_endWeek 35 = .ok (.aload_n 0, 1) := by decide +kernel
theorem dX0_endWeek_36 : decode cX0_endWeek 36 = .ok (.dup, 1) := by decide +kernel
theorem dX0_endWeek_37 : decode cX0_endWeek 37 = .ok (.getfield 53, 3) := by decide +kernel
theorem dX0_endWeek_40 : decode cX0_endWeek 40 = .ok (.iconst 1, 1) := by decide +kernel
theorem dX0_endWeek_41 : decode cX0_endWeek 41 = .ok (.iadd, 1) := by decide +kernel
theorem dX0_endWeek_42 : decode cX0_endWeek 42 = .ok (.putfield 53, 3) := by decide +kernel
theorem dX0_endWeek_45 : decode cX0_endWeek 45 = .ok (.aload_n 0, 1) := by decide +kernel
theorem dX0_endWeek_46 : decode cX0_endWeek 46 = .ok (.dup, 1) := by decide +kernel
theorem dX0_endWeek_47 : decode cX0_endWeek 47 = .ok (.getfield 50, 3) := by decide +kernel
theorem dX0_endWeek_50 : decode cX0_endWeek 50 = .ok (.iload_n 1, 1) := by decide +kernel
theorem dX0_endWeek_51 : decode cX0_endWeek 51 = .ok (.iadd, 1) := by decide +kernel
theorem dX0_endWeek_52 : decode cX0_endWeek 52 = .ok (.putfield 50, 3) := by decide +kernel
theorem dX0_endWeek_55 : decode cX0_endWeek 55 = .ok (.iload_n 1, 1) := by decide +kernel
theorem dX0_endWeek_56 : decode cX0_endWeek 56 = .ok (.ireturn, 1) := by decide +kernel
set_option maxRecDepth 20000 in
theorem ggX0_endWeekOf_X0_takeDue : GoodIn wsX0_endWeekOf wsX0_takeDue := goodIn_r _ [9, 10, 11, 12, 13, 14, 15, 16, 17, 18, 19, 8, 20, 21, 22, 23, 24, 25, 26, 27, 28, 29, 30, 31, 32, 33, 34, 35, 36, 37, 38, 39, 40, 41, 42, 43] (by decide +kernel) (by decide +kernel)
set_option maxRecDepth 20000 in
theorem gX0_endWeekOf_X0_takeDue : GoodIn wsX0_endWeekOf (wsV RX0 127 RX0 yX0_takeDue wsX0_takeDue) := goodIn_app (goodIn_of _ (by decide +kernel)) ggX0_endWeekOf_X0_takeDue
theorem dX0_endWeekOf_0 : decode cX0_endWeekOf 0 = .ok (.aload_n 0, 1) := by decide +kernel
theorem dX0_endWeekOf_1 : decode cX0_endWeekOf 1 = .ok (.getfield 30, 3) := by decide +kernel
theorem dX0_endWeekOf_4 : decode cX0_endWeekOf 4 = .ok (.iload_n 1, 1) := by decide +kernel
theorem dX0_endWeekOf_5 : decode cX0_endWeekOf 5 = .ok (.aload_n 0, 1) := by decide +kernel
theorem dX0_endWeekOf_6 : decode cX0_endWeekOf 6 = .ok (.getfield 27, 3) := by decide +kernel
theorem dX0_endWeekOf_9 : decode cX0_endWeekOf 9 = .ok (.iload_n 1, 1) := by decide +kernel
theorem dX0_endWeekOf_10 : decode cX0_endWeekOf 10 = .ok (.iaload, 1) := by decide +kernel
theorem dX0_endWeekOf_11 : decode cX0_endWeekOf 11 = .ok (.aload_n 0, 1) := by decide +kernel
theorem dX0_endWeekOf_12 : decode cX0_endWeekOf 12 = .ok (.getfield 24, 3) := by decide +kernel
theorem dX0_endWeekOf_15 : decode cX0_endWeekOf 15 = .ok (.iload_n 1, 1) := by decide +kernel
theorem dX0_endWeekOf_16 : decode cX0_endWeekOf 16 = .ok (.iaload, 1) := by decide +kernel
theorem dX0_endWeekOf_17 : decode cX0_endWeekOf 17 = .ok (.if_icmp .ge 14, 3) := by decide +kernel
theorem dX0_endWeekOf_20 : decode cX0_endWeekOf 20 = .ok (.aload_n 0, 1) := by decide +kernel
theorem dX0_endWeekOf_21 : decode cX0_endWeekOf 21 = .ok (.getfield 30, 3) := by decide +kernel
theorem dX0_endWeekOf_24 : decode cX0_endWeekOf 24 = .ok (.iload_n 1, 1) := by decide +kernel
theorem dX0_endWeekOf_25 : decode cX0_endWeekOf 25 = .ok (.iaload, 1) := by decide +kernel
theorem dX0_endWeekOf_26 : decode cX0_endWeekOf 26 = .ok (.iconst 1, 1) := by decide +kernel
theorem dX0_endWeekOf_27 : decode cX0_endWeekOf 27 = .ok (.iadd, 1) := by decide +kernel
theorem dX0_endWeekOf_28 : decode cX0_endWeekOf 28 = .ok (.goto 4, 3) := by decide +kernel
theorem dX0_endWeekOf_31 : decode cX0_endWeekOf 31 = .ok (.iconst 0, 1) := by decide +kernel
theorem dX0_endWeekOf_32 : decode cX0_endWeekOf 32 = .ok (.iastore, 1) := by decide +kernel
theorem dX0_endWeekOf_33 : decode cX0_endWeekOf 33 = .ok (.aload_n 0, 1) := by decide +kernel
theorem dX0_endWeekOf_34 : decode cX0_endWeekOf 34 = .ok (.getfield 27, 3) := by decide +kernel
theorem dX0_endWeekOf_37 : decode cX0_endWeekOf 37 = .ok (.iload_n 1, 1) := by decide +kernel
theorem dX0_endWeekOf_38 : decode cX0_endWeekOf 38 = .ok (.iconst 0, 1) := by decide +kernel
theorem dX0_endWeekOf_39 : decode cX0_endWeekOf 39 = .ok (.iastore, 1) := by decide +kernel
theorem dX0_endWeekOf_40 : decode cX0_endWeekOf 40 = .ok (.aload_n 0, 1) := by decide +kernel
theorem dX0_endWeekOf_41 : decode cX0_endWeekOf 41 = .ok (.getfield 30, 3) := by decide +kernel
theorem dX0_endWeekOf_44 : decode cX0_endWeekOf 44 = .ok (.iload_n 1, 1) := by decide +kernel
theorem dX0_endWeekOf_45 : decode cX0_endWeekOf 45 = .ok (.iaload, 1) := by decide +kernel
theorem dX0_endWeekOf_46 : decode cX0_endWeekOf 46 = .ok (.aload_n 0, 1) := by decide +kernel
theorem dX0_endWeekOf_47 : decode cX0_endWeekOf 47 = .ok (.getfield 33, 3) := by decide +kernel
theorem dX0_endWeekOf_50 : decode cX0_endWeekOf 50 = .ok (.iconst 1, 1) := by decide +kernel
theorem dX0_endWeekOf_51 : decode cX0_endWeekOf 51 = .ok (.iaload, 1) := by decide +kernel
theorem dX0_endWeekOf_52 : decode cX0_endWeekOf 52 = .ok (.if_icmp .ge 5, 3) := by decide +kernel
theorem dX0_endWeekOf_55 : decode cX0_endWeekOf 55 = .ok (.iconst 0, 1) := by decide +kernel
theorem dX0_endWeekOf_56 : decode cX0_endWeekOf 56 = .ok (.ireturn, 1) := by decide +kernel
theorem dX0_endWeekOf_57 : decode cX0_endWeekOf 57 = .ok (.aload_n 0, 1) := by decide +kernel
theorem dX0_endWeekOf_58 : decode cX0_endWeekOf 58 = .ok (.iload_n 1, 1) := by decide +kernel
theorem dX0_endWeekOf_59 : decode cX0_endWeekOf 59 = .ok (.invokevirtual 127, 3) := by decide +kernel
theorem dX0_endWeekOf_62 : decode cX0_endWeekOf 62 = .ok (.iconst 1, 1) := by decide +kernel
theorem dX0_endWeekOf_63 : decode cX0_endWeekOf 63 = .ok (.ireturn, 1) := by decide +kernel
set_option maxRecDepth 20000 in
theorem ggX0_takeDue_X0_ownLeft : GoodIn wsX0_takeDue wsX0_ownLeft := goodIn_r _ [12, 6, 13, 14, 15, 11, 16, 7, 20, 21, 22, 23, 24, 25, 26, 27, 28, 29, 30, 31, 32, 33, 34, 35] (by decide +kernel) (by decide +kernel)
set_option maxRecDepth 20000 in
theorem gX0_takeDue_X0_ownLeft : GoodIn wsX0_takeDue (wsV RX0 85 RX0 yX0_ownLeft wsX0_ownLeft) := goodIn_app (goodIn_of _ (by decide +kernel)) ggX0_takeDue_X0_ownLeft
set_option maxRecDepth 20000 in
theorem ggX0_takeDue_X0_place : GoodIn wsX0_takeDue wsX0_place := goodIn_r _ [19] (by decide +kernel) (by decide +kernel)
set_option maxRecDepth 20000 in
theorem gX0_takeDue_X0_place : GoodIn wsX0_takeDue (va_wsS RX0 101 yX0_place wsX0_place) := goodIn_app (goodIn_of _ (by decide +kernel)) ggX0_takeDue_X0_place
theorem dX0_takeDue_0 : decode cX0_takeDue 0 = .ok (.aload_n 0, 1) := by decide +kernel
theorem dX0_takeDue_1 : decode cX0_takeDue 1 = .ok (.getfield 21, 3) := by decide +kernel
theorem dX0_takeDue_4 : decode cX0_takeDue 4 = .ok (.iload_n 1, 1) := by decide +kernel
theorem dX0_takeDue_5 : decode cX0_takeDue 5 = .ok (.iaload, 1) := by decide +kernel
theorem dX0_takeDue_6 : decode cX0_takeDue 6 = .ok (.istore_n 2, 1) := by decide +kernel
theorem dX0_takeDue_7 : decode cX0_takeDue 7 = .ok (.iload_n 2, 1) := by decide +kernel
theorem dX0_takeDue_8 : decode cX0_takeDue 8 = .ok (.aload_n 0, 1) := by decide +kernel
theorem dX0_takeDue_9 : decode cX0_takeDue 9 = .ok (.iload_n 1, 1) := by decide +kernel
theorem dX0_takeDue_10 : decode cX0_takeDue 10 = .ok (.invokevirtual 85, 3) := by decide +kernel
theorem dX0_takeDue_13 : decode cX0_takeDue 13 = .ok (.invokestatic 65, 3) := by decide +kernel
theorem dX0_takeDue_16 : decode cX0_takeDue 16 = .ok (.istore_n 3, 1) := by decide +kernel
theorem dX0_takeDue_17 : decode cX0_takeDue 17 = .ok (.aload_n 0, 1) := by decide +kernel
theorem dX0_takeDue_18 : decode cX0_takeDue 18 = .ok (.getfield 9, 3) := by decide +kernel
theorem dX0_takeDue_21 : decode cX0_takeDue 21 = .ok (.iload_n 1, 1) := by decide +kernel
theorem dX0_takeDue_22 : decode cX0_takeDue 22 = .ok (.dup2, 1) := by decide +kernel
theorem dX0_takeDue_23 : decode cX0_takeDue 23 = .ok (.iaload, 1) := by decide +kernel
theorem dX0_takeDue_24 : decode cX0_takeDue 24 = .ok (.iload_n 3, 1) := by decide +kernel
theorem dX0_takeDue_25 : decode cX0_takeDue 25 = .ok (.isub, 1) := by decide +kernel
theorem dX0_takeDue_26 : decode cX0_takeDue 26 = .ok (.iastore, 1) := by decide +kernel
theorem dX0_takeDue_27 : decode cX0_takeDue 27 = .ok (.iload_n 2, 1) := by decide +kernel
theorem dX0_takeDue_28 : decode cX0_takeDue 28 = .ok (.iload_n 3, 1) := by decide +kernel
theorem dX0_takeDue_29 : decode cX0_takeDue 29 = .ok (.isub, 1) := by decide +kernel
theorem dX0_takeDue_30 : decode cX0_takeDue 30 = .ok (.istore_n 2, 1) := by decide +kernel
theorem dX0_takeDue_31 : decode cX0_takeDue 31 = .ok (.iconst 0, 1) := by decide +kernel
theorem dX0_takeDue_32 : decode cX0_takeDue 32 = .ok (.istore 4, 2) := by decide +kernel
theorem dX0_takeDue_34 : decode cX0_takeDue 34 = .ok (.iload 4, 2) := by decide +kernel
theorem dX0_takeDue_36 : decode cX0_takeDue 36 = .ok (.bipush 6, 2) := by decide +kernel
theorem dX0_takeDue_38 : decode cX0_takeDue 38 = .ok (.if_icmp .ge 59, 3) := by decide +kernel
theorem dX0_takeDue_41 : decode cX0_takeDue 41 = .ok (.iload 4, 2) := by decide +kernel
theorem dX0_takeDue_43 : decode cX0_takeDue 43 = .ok (.iload_n 1, 1) := by decide +kernel
theorem dX0_takeDue_44 : decode cX0_takeDue 44 = .ok (.invokestatic 101, 3) := by decide +kernel
theorem dX0_takeDue_47 : decode cX0_takeDue 47 = .ok (.istore 5, 2) := by decide +kernel
theorem dX0_takeDue_49 : decode cX0_takeDue 49 = .ok (.iload_n 2, 1) := by decide +kernel
theorem dX0_takeDue_50 : decode cX0_takeDue 50 = .ok (.aload_n 0, 1) := by decide +kernel
theorem dX0_takeDue_51 : decode cX0_takeDue 51 = .ok (.getfield 18, 3) := by decide +kernel
theorem dX0_takeDue_54 : decode cX0_takeDue 54 = .ok (.iload 5, 2) := by decide +kernel
theorem dX0_takeDue_56 : decode cX0_takeDue 56 = .ok (.iaload, 1) := by decide +kernel
theorem dX0_takeDue_57 : decode cX0_takeDue 57 = .ok (.invokestatic 65, 3) := by decide +kernel
theorem dX0_takeDue_60 : decode cX0_takeDue 60 = .ok (.istore 6, 2) := by decide +kernel
theorem dX0_takeDue_62 : decode cX0_takeDue 62 = .ok (.aload_n 0, 1) := by decide +kernel
theorem dX0_takeDue_63 : decode cX0_takeDue 63 = .ok (.getfield 9, 3) := by decide +kernel
theorem dX0_takeDue_66 : decode cX0_takeDue 66 = .ok (.iload 4, 2) := by decide +kernel
theorem dX0_takeDue_68 : decode cX0_takeDue 68 = .ok (.dup2, 1) := by decide +kernel
theorem dX0_takeDue_69 : decode cX0_takeDue 69 = .ok (.iaload, 1) := by decide +kernel
theorem dX0_takeDue_70 : decode cX0_takeDue 70 = .ok (.iload 6, 2) := by decide +kernel
theorem dX0_takeDue_72 : decode cX0_takeDue 72 = .ok (.isub, 1) := by decide +kernel
theorem dX0_takeDue_73 : decode cX0_takeDue 73 = .ok (.iastore, 1) := by decide +kernel
theorem dX0_takeDue_74 : decode cX0_takeDue 74 = .ok (.aload_n 0, 1) := by decide +kernel
theorem dX0_takeDue_75 : decode cX0_takeDue 75 = .ok (.getfield 18, 3) := by decide +kernel
theorem dX0_takeDue_78 : decode cX0_takeDue 78 = .ok (.iload 5, 2) := by decide +kernel
theorem dX0_takeDue_80 : decode cX0_takeDue 80 = .ok (.dup2, 1) := by decide +kernel
theorem dX0_takeDue_81 : decode cX0_takeDue 81 = .ok (.iaload, 1) := by decide +kernel
theorem dX0_takeDue_82 : decode cX0_takeDue 82 = .ok (.iload 6, 2) := by decide +kernel
theorem dX0_takeDue_84 : decode cX0_takeDue 84 = .ok (.isub, 1) := by decide +kernel
theorem dX0_takeDue_85 : decode cX0_takeDue 85 = .ok (.iastore, 1) := by decide +kernel
theorem dX0_takeDue_86 : decode cX0_takeDue 86 = .ok (.iload_n 2, 1) := by decide +kernel
theorem dX0_takeDue_87 : decode cX0_takeDue 87 = .ok (.iload 6, 2) := by decide +kernel
theorem dX0_takeDue_89 : decode cX0_takeDue 89 = .ok (.isub, 1) := by decide +kernel
theorem dX0_takeDue_90 : decode cX0_takeDue 90 = .ok (.istore_n 2, 1) := by decide +kernel
theorem dX0_takeDue_91 : decode cX0_takeDue 91 = .ok (.iinc 4 1, 3) := by decide +kernel
theorem dX0_takeDue_94 : decode cX0_takeDue 94 = .ok (.goto (-60), 3) := by decide +kernel
theorem dX0_takeDue_97 : decode cX0_takeDue 97 = .ok (.aload_n 0, 1) := by decide +kernel
theorem dX0_takeDue_98 : decode cX0_takeDue 98 = .ok (.getfield 21, 3) := by decide +kernel
theorem dX0_takeDue_101 : decode cX0_takeDue 101 = .ok (.iload_n 1, 1) := by decide +kernel
theorem dX0_takeDue_102 : decode cX0_takeDue 102 = .ok (.iconst 0, 1) := by decide +kernel
theorem dX0_takeDue_103 : decode cX0_takeDue 103 = .ok (.iastore, 1) := by decide +kernel
theorem dX0_takeDue_104 : decode cX0_takeDue 104 = .ok (.return_, 1) := by decide +kernel
theorem dX0_canAddDays_0 : decode cX0_canAddDays 0 = .ok (.aload_n 0, 1) := by decide +kernel
theorem dX0_canAddDays_1 : decode cX0_canAddDays 1 = .ok (.getfield 56, 3) := by decide +kernel
theorem dX0_canAddDays_4 : decode cX0_canAddDays 4 = .ok (.iload_n 1, 1) := by decide +kernel
theorem dX0_canAddDays_5 : decode cX0_canAddDays 5 = .ok (.iadd, 1) := by decide +kernel
theorem dX0_canAddDays_6 : decode cX0_canAddDays 6 = .ok (.sipush 9999, 3) := by decide +kernel
theorem dX0_canAddDays_9 : decode cX0_canAddDays 9 = .ok (.if_icmp .le 5, 3) := by decide +kernel
theorem dX0_canAddDays_12 : decode cX0_canAddDays 12 = .ok (.iconst 0, 1) := by decide +kernel
theorem dX0_canAddDays_13 : decode cX0_canAddDays 13 = .ok (.ireturn, 1) := by decide +kernel
theorem dX0_canAddDays_14 : decode cX0_canAddDays 14 = .ok (.iconst 0, 1) := by decide +kernel
theorem dX0_canAddDays_15 : decode cX0_canAddDays 15 = .ok (.istore_n 2, 1) := by decide +kernel
theorem dX0_canAddDays_16 : decode cX0_canAddDays 16 = .ok (.iload_n 2, 1) := by decide +kernel
theorem dX0_canAddDays_17 : decode cX0_canAddDays 17 = .ok (.bipush 6, 2) := by decide +kernel
theorem dX0_canAddDays_19 : decode cX0_canAddDays 19 = .ok (.if_icmp .ge 36, 3) := by decide +kernel
theorem dX0_canAddDays_22 : decode cX0_canAddDays 22 = .ok (.aload_n 0, 1) := by decide +kernel
theorem dX0_canAddDays_23 : decode cX0_canAddDays 23 = .ok (.getfield 15, 3) := by decide +kernel
theorem dX0_canAddDays_26 : decode cX0_canAddDays 26 = .ok (.iload_n 2, 1) := by decide +kernel
theorem dX0_canAddDays_27 : decode cX0_canAddDays 27 = .ok (.iaload, 1) := by decide +kernel
theorem dX0_canAddDays_28 : decode cX0_canAddDays 28 = .ok (.i2l, 1) := by decide +kernel
theorem dX0_canAddDays_29 : decode cX0_canAddDays 29 = .ok (.aload_n 0, 1) := by decide +kernel
theorem dX0_canAddDays_30 : decode cX0_canAddDays 30 = .ok (.getfield 9, 3) := by decide +kernel
theorem dX0_canAddDays_33 : decode cX0_canAddDays 33 = .ok (.iload_n 2, 1) := by decide +kernel
theorem dX0_canAddDays_34 : decode cX0_canAddDays 34 = .ok (.iaload, 1) := by decide +kernel
theorem dX0_canAddDays_35 : decode cX0_canAddDays 35 = .ok (.i2l, 1) := by decide +kernel
theorem dX0_canAddDays_36 : decode cX0_canAddDays 36 = .ok (.iload_n 1, 1) := by decide +kernel
theorem dX0_canAddDays_37 : decode cX0_canAddDays 37 = .ok (.i2l, 1) := by decide +kernel
theorem dX0_canAddDays_38 : decode cX0_canAddDays 38 = .ok (.lmul, 1) := by decide +kernel
theorem dX0_canAddDays_39 : decode cX0_canAddDays 39 = .ok (.ladd, 1) := by decide +kernel
theorem dX0_canAddDays_40 : decode cX0_canAddDays 40 = .ok (.ldc2_w 131, 3) := by decide +kernel
theorem dX0_canAddDays_43 : decode cX0_canAddDays 43 = .ok (.lcmp, 1) := by decide +kernel
theorem dX0_canAddDays_44 : decode cX0_canAddDays 44 = .ok (.ifCond .le 5, 3) := by decide +kernel
theorem dX0_canAddDays_47 : decode cX0_canAddDays 47 = .ok (.iconst 0, 1) := by decide +kernel
theorem dX0_canAddDays_48 : decode cX0_canAddDays 48 = .ok (.ireturn, 1) := by decide +kernel
theorem dX0_canAddDays_49 : decode cX0_canAddDays 49 = .ok (.iinc 2 1, 3) := by decide +kernel
theorem dX0_canAddDays_52 : decode cX0_canAddDays 52 = .ok (.goto (-36), 3) := by decide +kernel
theorem dX0_canAddDays_55 : decode cX0_canAddDays 55 = .ok (.iconst 1, 1) := by decide +kernel
theorem dX0_canAddDays_56 : decode cX0_canAddDays 56 = .ok (.ireturn, 1) := by decide +kernel
theorem dX0_addDays_0 : decode cX0_addDays 0 = .ok (.iconst 0, 1) := by decide +kernel
theorem dX0_addDays_1 : decode cX0_addDays 1 = .ok (.istore_n 2, 1) := by decide +kernel
theorem dX0_addDays_2 : decode cX0_addDays 2 = .ok (.iload_n 2, 1) := by decide +kernel
theorem dX0_addDays_3 : decode cX0_addDays 3 = .ok (.bipush 6, 2) := by decide +kernel
theorem dX0_addDays_5 : decode cX0_addDays 5 = .ok (.if_icmp .ge 26, 3) := by decide +kernel
theorem dX0_addDays_8 : decode cX0_addDays 8 = .ok (.aload_n 0, 1) := by decide +kernel
theorem dX0_addDays_9 : decode cX0_addDays 9 = .ok (.getfield 15, 3) := by decide +kernel
theorem dX0_addDays_12 : decode cX0_addDays 12 = .ok (.iload_n 2, 1) := by decide +kernel
theorem dX0_addDays_13 : decode cX0_addDays 13 = .ok (.dup2, 1) := by decide +kernel
theorem dX0_addDays_14 : decode cX0_addDays 14 = .ok (.iaload, 1) := by decide +kernel
theorem dX0_addDays_15 : decode cX0_addDays 15 = .ok (.aload_n 0, 1) := by decide +kernel
theorem dX0_addDays_16 : decode cX0_addDays 16 = .ok (.getfield 9, 3) := by decide +kernel
theorem dX0_addDays_19 : decode cX0_addDays 19 = .ok (.iload_n 2, 1) := by decide +kernel
theorem dX0_addDays_20 : decode cX0_addDays 20 = .ok (.iaload, 1) := by decide +kernel
theorem dX0_addDays_21 : decode cX0_addDays 21 = .ok (.iload_n 1, 1) := by decide +kernel
theorem dX0_addDays_22 : decode cX0_addDays 22 = .ok (.imul, 1) := by decide +kernel
theorem dX0_addDays_23 : decode cX0_addDays 23 = .ok (.iadd, 1) := by decide +kernel
theorem dX0_addDays_24 : decode cX0_addDays 24 = .ok (.iastore, 1) := by decide +kernel
theorem dX0_addDays_25 : decode cX0_addDays 25 = .ok (.iinc 2 1, 3) := by decide +kernel
theorem dX0_addDays_28 : decode cX0_addDays 28 = .ok (.goto (-26), 3) := by decide +kernel
theorem dX0_addDays_31 : decode cX0_addDays 31 = .ok (.aload_n 0, 1) := by decide +kernel
theorem dX0_addDays_32 : decode cX0_addDays 32 = .ok (.dup, 1) := by decide +kernel
theorem dX0_addDays_33 : decode cX0_addDays 33 = .ok (.getfield 56, 3) := by decide +kernel
theorem dX0_addDays_36 : decode cX0_addDays 36 = .ok (.iload_n 1, 1) := by decide +kernel
theorem dX0_addDays_37 : decode cX0_addDays 37 = .ok (.iadd, 1) := by decide +kernel
theorem dX0_addDays_38 : decode cX0_addDays 38 = .ok (.putfield 56, 3) := by decide +kernel
theorem dX0_addDays_41 : decode cX0_addDays 41 = .ok (.aload_n 0, 1) := by decide +kernel
theorem dX0_addDays_42 : decode cX0_addDays 42 = .ok (.getfield 56, 3) := by decide +kernel
theorem dX0_addDays_45 : decode cX0_addDays 45 = .ok (.ireturn, 1) := by decide +kernel
theorem dX0_dividendOf_0 : decode cX0_dividendOf 0 = .ok (.lload_n 2, 1) := by decide +kernel
theorem dX0_dividendOf_1 : decode cX0_dividendOf 1 = .ok (.lconst 1, 1) := by decide +kernel
theorem dX0_dividendOf_2 : decode cX0_dividendOf 2 = .ok (.lcmp, 1) := by decide +kernel
theorem dX0_dividendOf_3 : decode cX0_dividendOf 3 = .ok (.ifCond .ge 7, 3) := by decide +kernel
theorem dX0_dividendOf_6 : decode cX0_dividendOf 6 = .ok (.iconst 0, 1) := by decide +kernel
theorem dX0_dividendOf_7 : decode cX0_dividendOf 7 = .ok (.goto 19, 3) := by decide +kernel
theorem dX0_dividendOf_10 : decode cX0_dividendOf 10 = .ok (.aload_n 0, 1) := by decide +kernel
theorem dX0_dividendOf_11 : decode cX0_dividendOf 11 = .ok (.getfield 44, 3) := by decide +kernel
theorem dX0_dividendOf_14 : decode cX0_dividendOf 14 = .ok (.i2l, 1) := by decide +kernel
theorem dX0_dividendOf_15 : decode cX0_dividendOf 15 = .ok (.aload_n 0, 1) := by decide +kernel
theorem dX0_dividendOf_16 : decode cX0_dividendOf 16 = .ok (.getfield 15, 3) := by decide +kernel
theorem dX0_dividendOf_19 : decode cX0_dividendOf 19 = .ok (.iload_n 1, 1) := by decide +kernel
theorem dX0_dividendOf_20 : decode cX0_dividendOf 20 = .ok (.iaload, 1) := by decide +kernel
theorem dX0_dividendOf_21 : decode cX0_dividendOf 21 = .ok (.i2l, 1) := by decide +kernel
theorem dX0_dividendOf_22 : decode cX0_dividendOf 22 = .ok (.lmul, 1) := by decide +kernel
theorem dX0_dividendOf_23 : decode cX0_dividendOf 23 = .ok (.lload_n 2, 1) := by decide +kernel
theorem dX0_dividendOf_24 : decode cX0_dividendOf 24 = .ok (.ldiv, 1) := by decide +kernel
theorem dX0_dividendOf_25 : decode cX0_dividendOf 25 = .ok (.l2i, 1) := by decide +kernel
theorem dX0_dividendOf_26 : decode cX0_dividendOf 26 = .ok (.ireturn, 1) := by decide +kernel
set_option maxRecDepth 20000 in
theorem ggX0_shareOut_X0_allShareDays : GoodIn wsX0_shareOut wsX0_allShareDays := goodIn_r _ [10, 3, 15, 16, 17, 18, 19, 20, 21, 22, 23, 24, 25, 26, 27, 28, 29, 30] (by decide +kernel) (by decide +kernel)
set_option maxRecDepth 20000 in
theorem gX0_shareOut_X0_allShareDays : GoodIn wsX0_shareOut (wsV RX0 133 RX0 yX0_allShareDays wsX0_allShareDays) := goodIn_app (goodIn_of _ (by decide +kernel)) ggX0_shareOut_X0_allShareDays
set_option maxRecDepth 20000 in
theorem ggX0_shareOut_X0_dividendOf : GoodIn wsX0_shareOut wsX0_dividendOf := goodIn_r _ [14, 4, 3, 15, 16, 17, 18, 19, 20, 21, 22, 23, 24, 25, 26, 27, 28, 29, 30] (by decide +kernel) (by decide +kernel)
set_option maxRecDepth 20000 in
theorem gX0_shareOut_X0_dividendOf : GoodIn wsX0_shareOut (wsV RX0 137 RX0 yX0_dividendOf wsX0_dividendOf) := goodIn_app (goodIn_of _ (by decide +kernel)) ggX0_shareOut_X0_dividendOf
theorem dX0_shareOut_0 : decode cX0_shareOut 0 = .ok (.aload_n 0, 1) := by decide +kernel
theorem dX0_shareOut_1 : decode cX0_shareOut 1 = .ok (.invokevirtual 133, 3) := by decide +kernel
theorem dX0_shareOut_4 : decode cX0_shareOut 4 = .ok (.lstore_n 1, 1) := by decide +kernel
theorem dX0_shareOut_5 : decode cX0_shareOut 5 = .ok (.lload_n 1, 1) := by decide +kernel
theorem dX0_shareOut_6 : decode cX0_shareOut 6 = .ok (.lconst 1, 1) := by decide +kernel
theorem dX0_shareOut_7 : decode cX0_shareOut 7 = .ok (.lcmp, 1) := by decide +kernel
theorem dX0_shareOut_8 : decode cX0_shareOut 8 = .ok (.ifCond .ge 15, 3) := by decide +kernel
theorem dX0_shareOut_11 : decode cX0_shareOut 11 = .ok (.aload_n 0, 1) := by decide +kernel
theorem dX0_shareOut_12 : decode cX0_shareOut 12 = .ok (.dup, 1) := by decide +kernel
theorem dX0_shareOut_13 : decode cX0_shareOut 13 = .ok (.getfield 59, 3) := by decide +kernel
theorem dX0_shareOut_16 : decode cX0_shareOut 16 = .ok (.iconst 1, 1) := by decide +kernel
theorem dX0_shareOut_17 : decode cX0_shareOut 17 = .ok (.iadd, 1) := by decide +kernel
theorem dX0_shareOut_18 : decode cX0_shareOut 18 = .ok (.putfield 59, 3) := by decide +kernel
theorem dX0_shareOut_21 : decode cX0_shareOut 21 = .ok (.iconst (-1), 1) := by decide +kernel
theorem dX0_shareOut_22 : decode cX0_shareOut 22 = .ok (.ireturn, 1) := by decide +kernel
theorem dX0_shareOut_23 : decode cX0_shareOut 23 = .ok (.iconst 0, 1) := by decide +kernel
theorem dX0_shareOut_24 : decode cX0_shareOut 24 = .ok (.istore_n 3, 1) := by decide +kernel
theorem dX0_shareOut_25 : decode cX0_shareOut 25 = .ok (.iconst 0, 1) := by decide +kernel
theorem dX0_shareOut_26 : decode cX0_shareOut 26 = .ok (.istore 4, 2) := by decide +kernel
theorem dX0_shareOut_28 : decode cX0_shareOut 28 = .ok (.iload 4, 2) := by decide +kernel
theorem dX0_shareOut_30 : decode cX0_shareOut 30 = .ok (.bipush 6, 2) := by decide +kernel
theorem dX0_shareOut_32 : decode cX0_shareOut 32 = .ok (.if_icmp .ge 43, 3) := by decide +kernel
theorem dX0_shareOut_35 : decode cX0_shareOut 35 = .ok (.aload_n 0, 1) := by decide +kernel
theorem dX0_shareOut_36 : decode cX0_shareOut 36 = .ok (.iload 4, 2) := by decide +kernel
theorem dX0_shareOut_38 : decode cX0_shareOut 38 = .ok (.lload_n 1, 1) := by decide +kernel
theorem dX0_shareOut_39 : decode cX0_shareOut 39 = .ok (.invokevirtual 137, 3) := by decide +kernel
theorem dX0_shareOut_42 : decode cX0_shareOut 42 = .ok (.istore 5, 2) := by decide +kernel
theorem dX0_shareOut_44 : decode cX0_shareOut 44 = .ok (.aload_n 0, 1) := by decide +kernel
theorem dX0_shareOut_45 : decode cX0_shareOut 45 = .ok (.getfield 9, 3) := by decide +kernel
theorem dX0_shareOut_48 : decode cX0_shareOut 48 = .ok (.iload 4, 2) := by decide +kernel
theorem dX0_shareOut_50 : decode cX0_shareOut 50 = .ok (.dup2, 1) := by decide +kernel
theorem dX0_shareOut_51 : decode cX0_shareOut 51 = .ok (.iaload, 1) := by decide +kernel
theorem dX0_shareOut_52 : decode cX0_shareOut 52 = .ok (.iload 5, 2) := by decide +kernel
theorem dX0_shareOut_54 : decode cX0_shareOut 54 = .ok (.iadd, 1) := by decide +kernel
theorem dX0_shareOut_55 : decode cX0_shareOut 55 = .ok (.iastore, 1) := by decide +kernel
theorem dX0_shareOut_56 : decode cX0_shareOut 56 = .ok (.aload_n 0, 1) := by decide +kernel
theorem dX0_shareOut_57 : decode cX0_shareOut 57 = .ok (.getfield 15, 3) := by decide +kernel
theorem dX0_shareOut_60 : decode cX0_shareOut 60 = .ok (.iload 4, 2) := by decide +kernel
theorem dX0_shareOut_62 : decode cX0_shareOut 62 = .ok (.iconst 0, 1) := by decide +kernel
theorem dX0_shareOut_63 : decode cX0_shareOut 63 = .ok (.iastore, 1) := by decide +kernel
theorem dX0_shareOut_64 : decode cX0_shareOut 64 = .ok (.iload_n 3, 1) := by decide +kernel
theorem dX0_shareOut_65 : decode cX0_shareOut 65 = .ok (.iload 5, 2) := by decide +kernel
theorem dX0_shareOut_67 : decode cX0_shareOut 67 = .ok (.iadd, 1) := by decide +kernel
theorem dX0_shareOut_68 : decode cX0_shareOut 68 = .ok (.istore_n 3, 1) := by decide +kernel
theorem dX0_shareOut_69 : decode cX0_shareOut 69 = .ok (.iinc 4 1, 3) := by decide +kernel
theorem dX0_shareOut_72 : decode cX0_shareOut 72 = .ok (.goto (-44), 3) := by decide +kernel
theorem dX0_shareOut_75 : decode cX0_shareOut 75 = .ok (.aload_n 0, 1) := by decide +kernel
theorem dX0_shareOut_76 : decode cX0_shareOut 76 = .ok (.dup, 1) := by decide +kernel
theorem dX0_shareOut_77 : decode cX0_shareOut 77 = .ok (.getfield 44, 3) := by decide +kernel
theorem dX0_shareOut_80 : decode cX0_shareOut 80 = .ok (.iload_n 3, 1) := by decide +kernel
theorem dX0_shareOut_81 : decode cX0_shareOut 81 = .ok (.isub, 1) := by decide +kernel
theorem dX0_shareOut_82 : decode cX0_shareOut 82 = .ok (.putfield 44, 3) := by decide +kernel
theorem dX0_shareOut_85 : decode cX0_shareOut 85 = .ok (.aload_n 0, 1) := by decide +kernel
theorem dX0_shareOut_86 : decode cX0_shareOut 86 = .ok (.dup, 1) := by decide +kernel
theorem dX0_shareOut_87 : decode cX0_shareOut 87 = .ok (.getfield 62, 3) := by decide +kernel
theorem dX0_shareOut_90 : decode cX0_shareOut 90 = .ok (.iload_n 3, 1) := by decide +kernel
theorem dX0_shareOut_91 : decode cX0_shareOut 91 = .ok (.iadd, 1) := by decide +kernel
theorem dX0_shareOut_92 : decode cX0_shareOut 92 = .ok (.putfield 62, 3) := by decide +kernel
theorem dX0_shareOut_95 : decode cX0_shareOut 95 = .ok (.iload_n 3, 1) := by decide +kernel
theorem dX0_shareOut_96 : decode cX0_shareOut 96 = .ok (.ireturn, 1) := by decide +kernel
end
section
/-! the rows of this claim: worlds, contracts' starts and ends, calls, one row each -/
section ZR
abbrev zTy (cA : Nat → ClassId) : List (ClassId × FieldType) := [(cA 0, .int), (cA 1, .boolean), (cA 2, .char), (cA 3, .object "PledgedLoans$Books"), (cA 4, .long)]
/-- the addresses of a world -/
def zfr (w : va_W) : Nat → Prop := fun q => ∃ (k : Nat) (e : va_E), w[k]? = some (q, e)
def zPc (D : va_G) (cA : Nat → ClassId) (av : List Value) (w : va_W) : Array Value → State → Prop := va_Pc av (fun U => va_P D vwCl w U.heap ∧ va_K D vwCl (zTy cA) U ∧ va_D (fun _ => True) w)
/-- an end that changes nothing -/
def zE (rv : Option Value) : Array Value → State → Outcome → State → Prop := fun _ st oc t => oc = .returned rv ∧ t.heap = st.heap
/-- an end that changes its world alone, and makes nothing -/
def zM (D : va_G) (w w' : va_W) (rv : Option Value) : Array Value → State → Outcome → State → Prop := fun _ st oc t => oc = .returned rv ∧ va_P D vwCl w' t.heap ∧ va_F (zfr w) st t
abbrev zrm (f L : Nat) : Room := { frames := f, cells := 0, slots := 0, locals := L }
theorem z_blind {D : va_G} {cA : Nat → ClassId} {av : List Value} {w : va_W} : FrameBlind (zPc D cA av w) := fun a U g mk q => by
  obtain ⟨q0, qP, qK, qD⟩ := q
  exact ⟨q0, qP, va_K.moved (u := U) (U := U.calling g mk a) (Vm.Alike.refl U.vm) qK, qD⟩
theorem z_preV {D : va_G} {cA : Nat → ClassId} {A : Nat → Prop} {s : State} {H : Heap} {wc : va_W} {b ci : Nat} {q : vw_C} {fs : List Value} {As : List Value} (hK : va_K D vwCl (zTy cA) s) (hP : va_P D vwCl wc H) (hD : va_D A wc) (hc : vwCl[ci]? = some q) (he : wc[0]? = some (b, .inr (ci, fs))) : PreV s H q.1 b (zPc D cA (.ref b :: As) wc) As :=
  ⟨z_blind, va_recv hK hP hc he, fun U hU hW => ⟨rfl, by rw [hU]; exact hP, va_K.moved hW.alike hK, hD.weaken (fun _ _ _ _ => trivial)⟩⟩
theorem z_preS {D : va_G} {cA : Nat → ClassId} {A : Nat → Prop} {s : State} {H : Heap} {wc : va_W} {As : List Value} (hK : va_K D vwCl (zTy cA) s) (hP : va_P D vwCl wc H) (hD : va_D A wc) : PreS s H (zPc D cA As wc) As :=
  ⟨z_blind, fun U hU hW => ⟨rfl, by rw [hU]; exact hP, va_K.moved hW.alike hK, hD.weaken (fun _ _ _ _ => trivial)⟩⟩
theorem z_P0 {D : va_G} {H : Heap} : va_P D vwCl [] H := fun k q h => by simp at h
theorem z_D0 {A : Nat → Prop} : va_D A [] := ⟨fun i j p q h => by simp at h, fun k q h => by simp at h⟩
theorem z_Dfr {w : va_W} (h : va_D (fun _ => True) w) : va_D (zfr w) w := ⟨h.1, fun k q hk => ⟨k, q.2, hk⟩⟩
section
variable {p : Program} {l : Launch} {e : Env} {R : Room} {s : State} {m : MethodId} {args : Array Value} {below : List Frame} {meth : Method} {c : Code} {H : Heap} {locs : List Loc} {cells slots : Nat} {Q : State → Prop}
variable {cc : ByteArray} {pc : Nat} {ls : Array Slot} {rest st0 st1 : List Value} {D : va_G} {cA : Nat → ClassId} {A : Nat → Prop} {a : Nat} {ws : va_W} {H0 : Heap}
theorem z_top {x y : Int32} (h : x = y) (k : W p l e R s m args below meth c H locs cells slots Q (F0 m pc ls (.int y :: rest))) : W p l e R s m args below meth c H locs cells slots Q (F0 m pc ls (.int x :: rest)) := h ▸ k
theorem z_topl {x y : Int64} (h : x = y) (k : W p l e R s m args below meth c H locs cells slots Q (F0 m pc ls (.long y :: rest))) : W p l e R s m args below meth c H locs cells slots Q (F0 m pc ls (.long x :: rest)) := h ▸ k
/-- ends that change nothing -/
theorem z_iretE {v r : Int32} {free : Addr → Prop} (hx : p.tables.exec = Jvm.exec) (hb : c.code = cc) (hr : meth.sig.returnType = some .int) (hlocks : meth.locks = false) (hdg : decode cc pc = .ok (.ireturn, 1)) (he : v = r) : W p l e R s m args below meth c s.heap [] cells slots (MQ below (zE (some (.int r))) args s cells slots free) (F0 m pc ls [.int v]) := by
  subst he
  exact W.iret hx hb hr (fun t ht _ => ⟨rfl, ht⟩) (fun q hq => by cases hq) hdg hlocks
theorem z_zretE {v r : Int32} {free : Addr → Prop} (hx : p.tables.exec = Jvm.exec) (hb : c.code = cc) (hr : meth.sig.returnType = some .boolean) (hlocks : meth.locks = false) (hdg : decode cc pc = .ok (.ireturn, 1)) (hn : narrow .boolean (.int v) = .int v) (he : v = r) : W p l e R s m args below meth c s.heap [] cells slots (MQ below (zE (some (.int r))) args s cells slots free) (F0 m pc ls [.int v]) := by
  subst he
  exact W.zret hx hb hr hn (fun t ht _ => ⟨rfl, ht⟩) (fun q hq => by cases hq) hdg hlocks
theorem z_lretE {v r : Int64} {free : Addr → Prop} (hx : p.tables.exec = Jvm.exec) (hb : c.code = cc) (hr : meth.sig.returnType = some .long) (hlocks : meth.locks = false) (hdg : decode cc pc = .ok (.lreturn, 1)) (he : v = r) : W p l e R s m args below meth c s.heap [] cells slots (MQ below (zE (some (.long r))) args s cells slots free) (F0 m pc ls [.long v]) := by
  subst he
  exact W.lret hx hb hr (fun t ht _ => ⟨rfl, ht⟩) (fun q hq => by cases hq) hdg hlocks
theorem z_dretE {v r : UInt64} {free : Addr → Prop} (hx : p.tables.exec = Jvm.exec) (hb : c.code = cc) (hr : meth.sig.returnType = some .double) (hlocks : meth.locks = false) (hdg : decode cc pc = .ok (.dreturn, 1)) (he : v = r) : W p l e R s m args below meth c s.heap [] cells slots (MQ below (zE (some (.double r))) args s cells slots free) (F0 m pc ls [.double v]) := by
  subst he
  exact W.dret hx hb hr (fun t ht _ => ⟨rfl, ht⟩) (fun q hq => by cases hq) hdg hlocks
/-- ends that change the world -/
theorem z_iretM {v r : Int32} {w w1 w' : va_W} (hx : p.tables.exec = Jvm.exec) (hb : c.code = cc) (hr : meth.sig.returnType = some .int) (hlocks : meth.locks = false) (hdg : decode cc pc = .ok (.ireturn, 1)) (hP : va_P D vwCl w1 H) (hS : va_S (zfr w) s.heap H locs) (he : v = r) (hw : w1 = w') : W p l e R s m args below meth c H locs cells slots (MQ below (zM D w w' (some (.int r))) args s cells slots (zfr w)) (F0 m pc ls [.int v]) := by
  subst he hw
  exact W.iret hx hb hr (fun t ht _ => ⟨rfl, by rw [ht]; exact hP, hS.F ht⟩) hS.2.2 hdg hlocks
theorem z_zretM {v r : Int32} {w w1 w' : va_W} (hx : p.tables.exec = Jvm.exec) (hb : c.code = cc) (hr : meth.sig.returnType = some .boolean) (hlocks : meth.locks = false) (hdg : decode cc pc = .ok (.ireturn, 1)) (hP : va_P D vwCl w1 H) (hS : va_S (zfr w) s.heap H locs) (hn : narrow .boolean (.int v) = .int v) (he : v = r) (hw : w1 = w') : W p l e R s m args below meth c H locs cells slots (MQ below (zM D w w' (some (.int r))) args s cells slots (zfr w)) (F0 m pc ls [.int v]) := by
  subst he hw
  exact W.zret hx hb hr hn (fun t ht _ => ⟨rfl, by rw [ht]; exact hP, hS.F ht⟩) hS.2.2 hdg hlocks
theorem z_lretM {v r : Int64} {w w1 w' : va_W} (hx : p.tables.exec = Jvm.exec) (hb : c.code = cc) (hr : meth.sig.returnType = some .long) (hlocks : meth.locks = false) (hdg : decode cc pc = .ok (.lreturn, 1)) (hP : va_P D vwCl w1 H) (hS : va_S (zfr w) s.heap H locs) (he : v = r) (hw : w1 = w') : W p l e R s m args below meth c H locs cells slots (MQ below (zM D w w' (some (.long r))) args s cells slots (zfr w)) (F0 m pc ls [.long v]) := by
  subst he hw
  exact W.lret hx hb hr (fun t ht _ => ⟨rfl, by rw [ht]; exact hP, hS.F ht⟩) hS.2.2 hdg hlocks
theorem z_dretM {v r : UInt64} {w w1 w' : va_W} (hx : p.tables.exec = Jvm.exec) (hb : c.code = cc) (hr : meth.sig.returnType = some .double) (hlocks : meth.locks = false) (hdg : decode cc pc = .ok (.dreturn, 1)) (hP : va_P D vwCl w1 H) (hS : va_S (zfr w) s.heap H locs) (he : v = r) (hw : w1 = w') : W p l e R s m args below meth c H locs cells slots (MQ below (zM D w w' (some (.double r))) args s cells slots (zfr w)) (F0 m pc ls [.double v]) := by
  subst he hw
  exact W.dret hx hb hr (fun t ht _ => ⟨rfl, by rw [ht]; exact hP, hS.F ht⟩) hS.2.2 hdg hlocks
theorem z_vretM {w w1 w' : va_W} (hx : p.tables.exec = Jvm.exec) (hb : c.code = cc) (hr : meth.sig.returnType = none) (hlocks : meth.locks = false) (hdg : decode cc pc = .ok (.return_, 1)) (hP : va_P D vwCl w1 H) (hS : va_S (zfr w) s.heap H locs) (hw : w1 = w') : W p l e R s m args below meth c H locs cells slots (MQ below (zM D w w' none) args s cells slots (zfr w)) (F0 m pc ls []) := by
  subst hw
  exact W.vret hx hb hr (fun t ht _ => ⟨rfl, by rw [ht]; exact hP, hS.F ht⟩) hS.2.2 hdg hlocks
/-- arrays of ints, by a place that is a number -/
theorem z_iald (hx : p.tables.exec = Jvm.exec) (hb : c.code = cc) (hK : va_K D vwCl (zTy cA) s) (hP : va_P D vwCl ws H) (q0 t0 : Nat) {cI : ClassId} {n j : Nat} {f : Nat → Int32} (ha : ws[q0]? = some (a, .inl (cI, n, .inl f))) (ht : (zTy cA)[t0]? = some (cI, .int)) (hdg : decode cc pc = .ok (.iaload, 1)) (hj : j < n) (hn : n < 2 ^ 31)
    (kk : W p l e R s m args below meth c H locs cells slots Q (F0 m (pc + 1) ls (.int (f j) :: rest))) : W p l e R s m args below meth c H locs cells slots Q (F0 m pc ls (.int (nI j) :: .ref a :: rest)) := by
  refine va_iald hx hb hK hP q0 t0 ha ht (vp_in_nI hj hn) hdg ?_
  rw [nI_clamp (by omega)]
  exact kk
theorem z_zald (hx : p.tables.exec = Jvm.exec) (hb : c.code = cc) (hK : va_K D vwCl (zTy cA) s) (hP : va_P D vwCl ws H) (q0 t0 : Nat) {cI : ClassId} {n j : Nat} {f : Nat → Int32} (ha : ws[q0]? = some (a, .inl (cI, n, .inl f))) (ht : (zTy cA)[t0]? = some (cI, .boolean)) (hdg : decode cc pc = .ok (.baload, 1)) (hj : j < n) (hn : n < 2 ^ 31)
    (kk : W p l e R s m args below meth c H locs cells slots Q (F0 m (pc + 1) ls (.int (f j) :: rest))) : W p l e R s m args below meth c H locs cells slots Q (F0 m pc ls (.int (nI j) :: .ref a :: rest)) := by
  refine va_zald hx hb hK hP q0 t0 ha ht (vp_in_nI hj hn) hdg ?_
  rw [nI_clamp (by omega)]
  exact kk
theorem z_cald (hx : p.tables.exec = Jvm.exec) (hb : c.code = cc) (hK : va_K D vwCl (zTy cA) s) (hP : va_P D vwCl ws H) (q0 t0 : Nat) {cI : ClassId} {n j : Nat} {f : Nat → Int32} (ha : ws[q0]? = some (a, .inl (cI, n, .inl f))) (ht : (zTy cA)[t0]? = some (cI, .char)) (hdg : decode cc pc = .ok (.caload, 1)) (hj : j < n) (hn : n < 2 ^ 31)
    (kk : W p l e R s m args below meth c H locs cells slots Q (F0 m (pc + 1) ls (.int (f j) :: rest))) : W p l e R s m args below meth c H locs cells slots Q (F0 m pc ls (.int (nI j) :: .ref a :: rest)) := by
  refine va_cald hx hb hK hP q0 t0 ha ht (vp_in_nI hj hn) hdg ?_
  rw [nI_clamp (by omega)]
  exact kk
theorem z_iast (hx : p.tables.exec = Jvm.exec) (hb : c.code = cc) (hK : va_K D vwCl (zTy cA) s) (hP : va_P D vwCl ws H) (hD : va_D A ws) (hS : va_S A H0 H locs) (q0 t0 : Nat) {cI : ClassId} {n j : Nat} {f : Nat → Int32} (ha : ws[q0]? = some (a, .inl (cI, n, .inl f))) (ht : (zTy cA)[t0]? = some (cI, .int)) (hdg : decode cc pc = .ok (.iastore, 1)) (hj : j < n) (hn : n < 2 ^ 31) {x : Int32} (w1 : va_W) (hw : ws.set q0 (a, .inl (cI, n, .inl (upd f j x))) = w1)
    (kk : ∀ (H1 : Heap) (locs1 : List Loc), va_P D vwCl w1 H1 → va_D A w1 → va_S A H0 H1 locs1 → W p l e R s m args below meth c H1 locs1 cells slots Q (F0 m (pc + 1) ls rest)) : W p l e R s m args below meth c H locs cells slots Q (F0 m pc ls (.int x :: .int (nI j) :: .ref a :: rest)) := by
  subst hw
  refine va_iast hx hb hK hP hD hS q0 t0 ha ht (vp_in_nI hj hn) hdg ?_
  rw [nI_clamp (by omega)]
  exact kk
theorem z_zast (hx : p.tables.exec = Jvm.exec) (hb : c.code = cc) (hK : va_K D vwCl (zTy cA) s) (hP : va_P D vwCl ws H) (hD : va_D A ws) (hS : va_S A H0 H locs) (q0 t0 : Nat) {cI : ClassId} {n j : Nat} {f : Nat → Int32} (ha : ws[q0]? = some (a, .inl (cI, n, .inl f))) (ht : (zTy cA)[t0]? = some (cI, .boolean)) (hdg : decode cc pc = .ok (.bastore, 1)) (hj : j < n) (hn : n < 2 ^ 31) {x : Int32} (hv : vp_nar .boolean x = x) (w1 : va_W) (hw : ws.set q0 (a, .inl (cI, n, .inl (upd f j x))) = w1)
    (kk : ∀ (H1 : Heap) (locs1 : List Loc), va_P D vwCl w1 H1 → va_D A w1 → va_S A H0 H1 locs1 → W p l e R s m args below meth c H1 locs1 cells slots Q (F0 m (pc + 1) ls rest)) : W p l e R s m args below meth c H locs cells slots Q (F0 m pc ls (.int x :: .int (nI j) :: .ref a :: rest)) := by
  subst hw
  refine va_zast hx hb hK hP hD hS q0 t0 ha ht (vp_in_nI hj hn) hdg ?_
  rw [nI_clamp (by omega), hv]
  exact kk
/-- calls that change nothing; rv: what comes back -/
theorem z_E {rv : Option Value} {aa : Array Value} (hr : va_Run p l e R s m args below meth c H locs cells slots 0 0 (F0 m pc ls st0) rest (zE rv aa) (fun _ => False)) (h1 : rv.toList ++ rest = st1)
    (kk : W p l e R s m args below meth c H locs cells slots Q (F0 m (pc + 3) ls st1)) : W p l e R s m args below meth c H locs cells slots Q (F0 m pc ls st0) := by
  subst h1
  intro T hT X
  obtain ⟨v, st₀, t, T', L, h0, X', hL, e1, e2, ⟨hv, hh⟩, st⟩ := hr T hT X
  cases hv
  obtain ⟨t2, a1, b1⟩ := kk T' (by rw [e1, hh, h0]) (Stand.forget X' (fun q h => (hL q h).elim))
  exact ⟨t2, st t2 a1, b1⟩
theorem z_join {X wc w1 Z : va_W} {H1 : Heap} (hP : va_P D vwCl (X ++ (wc ++ Z)) H) (hD : va_D A (X ++ (wc ++ Z))) (hadr : w1.map Prod.fst = wc.map Prod.fst) (hP1 : va_P D vwCl w1 H1) (hk : ∀ q : Nat, q < H.size → ¬ zfr wc q → H1[q]? = H[q]?) : va_P D vwCl (X ++ (w1 ++ Z)) H1 ∧ va_D A (X ++ (w1 ++ Z)) := by
  have hadr' : ∀ (k : Nat), (w1[k]?).map Prod.fst = (wc[k]?).map Prod.fst := fun k => by rw [← List.getElem?_map, ← List.getElem?_map, hadr]
  have hlen : w1.length = wc.length := by have := congrArg List.length hadr; simpa using this
  have hadr2 : ∀ (k : Nat), ((X ++ (w1 ++ Z))[k]?).map Prod.fst = ((X ++ (wc ++ Z))[k]?).map Prod.fst := fun k => by
    rw [← List.getElem?_map, ← List.getElem?_map]; simp [hadr]
  have old : ∀ (k : Nat) (q : Nat × va_E), (X ++ (wc ++ Z))[k]? = some q → (∀ j, X.length + j = k → wc.length ≤ j) → va_at D vwCl q H1 := by
    intro k q hq hn
    refine (hP k q hq).kept (hk q.1 (hP k q hq).lt ?_)
    rintro ⟨j, e', hj⟩
    have hjl := (List.getElem?_eq_some_iff.mp hj).1
    have h2 : (X ++ (wc ++ Z))[X.length + j]? = some (q.1, e') := by
      rw [List.getElem?_append_right (by omega), Nat.add_sub_cancel_left, List.getElem?_append_left hjl, hj]
    have := hD.1 k (X.length + j) q (q.1, e') hq h2 rfl
    have := hn j this.symm
    omega
  refine ⟨fun k q hq => ?_, fun i j p' q' hp hq he => ?_, fun k q hq => ?_⟩
  · rcases Nat.lt_or_ge k X.length with h | h
    · refine old k q ?_ (fun j hj => by omega)
      rw [List.getElem?_append_left h] at hq ⊢
      exact hq
    · obtain ⟨j, rfl⟩ : ∃ j, k = X.length + j := ⟨k - X.length, by omega⟩
      rw [List.getElem?_append_right h, Nat.add_sub_cancel_left] at hq
      rcases Nat.lt_or_ge j w1.length with h2 | h2
      · rw [List.getElem?_append_left h2] at hq
        exact hP1 j q hq
      · refine old (X.length + j) q ?_ (fun i hi => by omega)
        rw [List.getElem?_append_right h, Nat.add_sub_cancel_left, List.getElem?_append_right (by omega), ← hlen]
        rw [List.getElem?_append_right h2] at hq
        exact hq
  · have e1 := hadr2 i
    have e2 := hadr2 j
    rw [hp] at e1
    rw [hq] at e2
    cases hi : (X ++ (wc ++ Z))[i]? with
    | none => rw [hi] at e1; cases e1
    | some x =>
      cases hj : (X ++ (wc ++ Z))[j]? with
      | none => rw [hj] at e2; cases e2
      | some y =>
        rw [hi] at e1; rw [hj] at e2
        have h1 : p'.1 = x.1 := by simpa using e1
        have h2 : q'.1 = y.1 := by simpa using e2
        exact hD.1 i j x y hi hj (by rw [← h1, ← h2, he])
  · have e1 := hadr2 k
    rw [hq] at e1
    cases hi : (X ++ (wc ++ Z))[k]? with
    | none => rw [hi] at e1; cases e1
    | some x =>
      rw [hi] at e1
      have h1 : q.1 = x.1 := by simpa using e1
      rw [h1]
      exact hD.2 k x hi
/-- calls that change a stretch of the world -/
theorem z_M {rv : Option Value} {aa : Array Value} {X wc w1 Z : va_W} (hr : va_Run p l e R s m args below meth c H locs cells slots 0 0 (F0 m pc ls st0) rest (zM D wc w1 rv aa) (zfr wc)) (hP : va_P D vwCl (X ++ (wc ++ Z)) H) (hD : va_D A (X ++ (wc ++ Z))) (hS : va_S A H0 H locs) (hadr : w1.map Prod.fst = wc.map Prod.fst) (h1 : rv.toList ++ rest = st1)
    (kk : ∀ (H1 : Heap) (locs1 : List Loc), va_P D vwCl (X ++ (w1 ++ Z)) H1 → va_D A (X ++ (w1 ++ Z)) → va_S A H0 H1 locs1 → W p l e R s m args below meth c H1 locs1 cells slots Q (F0 m (pc + 3) ls st1)) : W p l e R s m args below meth c H locs cells slots Q (F0 m pc ls st0) := by
  subst h1
  have hF : ∀ q, zfr wc q → A q := by
    rintro q ⟨j, e', hj⟩
    have hjl := (List.getElem?_eq_some_iff.mp hj).1
    refine hD.2 (X.length + j) (q, e') ?_
    rw [List.getElem?_append_right (by omega), Nat.add_sub_cancel_left, List.getElem?_append_left hjl, hj]
  intro T hT X'
  obtain ⟨v, st₀, t, T', L, h0, X1, hL, e1, e2, ⟨hv, hp1, hz, hk⟩, st⟩ := hr T hT X'
  cases hv
  rw [h0] at hz hk
  have hj := z_join (H1 := T'.heap) hP hD hadr (by rw [e1]; exact hp1) (fun q h1 h2 => by rw [e1]; exact hk q h1 h2)
  obtain ⟨t2, a1, b1⟩ := kk T'.heap (locs ++ L) hj.1 hj.2
    ⟨Nat.le_trans hS.1 (by rw [e1]; exact hz), fun q h1 h2 => by rw [e1, hk q (Nat.lt_of_lt_of_le h1 hS.1) (fun z => h2 (hF q z))]; exact hS.2.1 q h1 h2, fun q hq => by
      rcases List.mem_append.mp hq with h | h
      · exact hS.2.2 q h
      · exact hF _ (hL q h)⟩ T' rfl X1
  exact ⟨t2, st t2 a1, b1⟩
end
/-- numbers -/
theorem z_lt6 {x : Int32} (h1 : ¬ x < 0) (h2 : ¬ 6 ≤ x) : ∃ m : Nat, m < 6 ∧ x = nI m := by
  obtain ⟨j, hj, rfl⟩ := nI_of h1
  refine ⟨j, ?_, rfl⟩
  have h3 : ¬ nI 6 ≤ nI j := h2
  rw [nI_leI (by omega) hj] at h3
  omega
def zsum (f : Nat → Int32) : Nat → Int32
  | 0 => 0
  | n + 1 => zsum f n + f n
/-- the books' contents: rows 0 to 7 the arrays, row 8 the numbers -/
abbrev BK : Type := Nat → Nat → Int32
def uB (B : BK) (k i : Nat) (x : Int32) : BK := fun k' => if k' = k then upd (B k') i x else B k'
def bkE (a : Nat → Nat) (B : BK) : List Value := [.ref (a 1), .ref (a 2), .ref (a 3), .ref (a 4), .ref (a 5), .ref (a 6), .ref (a 7), .ref (a 8), .int (B 8 0), .int (B 8 1), .int (B 8 2), .int (B 8 3), .int (B 8 4), .int (B 8 5), .int (B 8 6), .int (B 8 7)]
def bkW (cI : ClassId) (a : Nat → Nat) (B : BK) : va_W := [(a 0, .inr (0, bkE a B)), (a 1, .inl (cI, 6, .inl (B 0))), (a 2, .inl (cI, 6, .inl (B 1))), (a 3, .inl (cI, 36, .inl (B 2))), (a 4, .inl (cI, 6, .inl (B 3))), (a 5, .inl (cI, 6, .inl (B 4))), (a 6, .inl (cI, 6, .inl (B 5))), (a 7, .inl (cI, 6, .inl (B 6))), (a 8, .inl (cI, 2, .inl (B 7)))]
/-- the model's: row 0 s, 1 isKept, 2 text, 3 frees, 4 the numbers thrown order first second amount weeks; N: saved length at; and hash -/
def moE (a : Nat → Nat) (M : BK) (N : Nat → Nat) (h : Int64) : List Value := [.int (M 4 0), .ref (a 1), .int (nI (N 0)), .ref (a 2), .ref (a 3), .int (nI (N 1)), .int (nI (N 2)), .int (M 4 1), .int (M 4 2), .int (M 4 3), .int (M 4 4), .int (M 4 5), .ref (a 4), .long h]
def moW (cA : Nat → ClassId) (a : Nat → Nat) (M : BK) (N : Nat → Nat) (h : Int64) : va_W := [(a 0, .inr (3, moE a M N h)), (a 1, .inl (cA 0, 738, .inl (M 0))), (a 2, .inl (cA 1, 2, .inl (M 1))), (a 3, .inl (cA 0, 60, .inl (M 2))), (a 4, .inl (cA 0, 6, .inl (M 3)))]
/-- the reader: stage kind member borrower amount weeks -/
def rdW (a : Nat) (r : Nat → Nat) : va_W := [(a, .inr (1, [.int (nI (r 0)), .int (nI (r 1)), .int (nI (r 2)), .int (nI (r 3)), .int (nI (r 4)), .int (nI (r 5))]))]
def zmin (x y : Int32) : Int32 := if y < x then y else x
def zmax (x y : Int32) : Int32 := if x < y then y else x
theorem z_nz {x : Int64} (h : 1 ≤ x) : ¬ x = 0 := by
  intro e
  subst e
  exact absurd h (by decide)
theorem z_nz1 {x : Int32} (h : 1 ≤ x) : ¬ x = 0 := by
  intro e
  subst e
  exact absurd h (by decide)
end ZR
end
section
theorem zy_X0_place : yX0_place.cls = RX0 ∧ yX0_place.cls ≠ "java/lang/invoke/MethodHandle" ∧ yX0_place.cls ≠ "java/lang/invoke/VarHandle" ∧ (parseMethodDescriptor yX0_place.desc).map (fun d => d.parameters.length) = some 2 := by decide +kernel
def f_X0_place (mb : Nat) (br : Nat) : Int32 :=
  nI ((mb * 6) + br)

set_option maxHeartbeats 4000000 in
set_option maxRecDepth 100000 in
theorem zc_X0_place (l : Launch) (D : va_G) (cA : Nat → ClassId) (mb : Nat) (br : Nat) (hmb : mb < 6) (hbr : br < 6) : Met l yX0_place wsX0_place (zrm 0 0) (zPc D cA [.int (nI mb), .int (nI br)] (([] : va_W))) (zE (some (.int (f_X0_place mb br)))) 0 0 (fun _ => False) := by
  refine Met.ofW (cc := cX0_place) (maxL := 2) (ret := (some .int)) (by decide) rfl ?_
  intro p e s m args below meth c s₁ Bd hml hv
  obtain ⟨rfl, hP, hK, hD0⟩ := hv
  have hx := Bd.exec
  have hb := Bd.bytes
  have hr := Bd.returns
  have hts := atoms_spec (ws := wsX0_place) Bd.pre
  have hown : s.vm.findClass RX0 = some m.cls := findClass_of_methodNamed Bd.named
  have hlocks := Bd.notSynchronized
  have hD := z_Dfr hD0
  have hS : va_S (zfr (([] : va_W))) s.heap s.heap [] := va_S.rf
  have hl := lv_entry ([.int (nI mb), .int (nI br)]) (n := 2) (Nat.le_of_ble_eq_true rfl)
  rw [lg_entry_eq]
  generalize (lg_sl ([.int (nI mb), .int (nI br)]) ++ List.replicate (2 - (lg_sl ([.int (nI mb), .int (nI br)])).length) Slot.unset).toArray = ls at hl ⊢
  have hl : lv_has ls 2 [(0, .int (nI mb)), (1, .int (nI br))] := hl
  refine lv_iload_n hx hb dX0_place_0 rfl (lv_at hl 0 rfl) ?_
  refine lv_bipush (v := 6) hx hb dX0_place_1 (by decide) ?_
  refine lv_imul hx hb dX0_place_3 ?_
  refine z_top (pk_mul mb 6) ?_
  refine lv_iload_n hx hb dX0_place_4 rfl (lv_at hl 1 rfl) ?_
  refine lv_iadd hx hb dX0_place_5 ?_
  refine z_top (nI_add (mb * 6) br) ?_
  exact z_iretE hx hb hr hlocks dX0_place_6 (by rfl)

theorem zy_X0_allShares : yX0_allShares.cls = RX0 ∧ yX0_allShares.cls ≠ "java/lang/invoke/MethodHandle" ∧ yX0_allShares.cls ≠ "java/lang/invoke/VarHandle" ∧ (parseMethodDescriptor yX0_allShares.desc).map (fun d => d.parameters.length) = some 0 := by decide +kernel
def f_X0_allShares_13 (B : BK) (i0 : Int32) : Nat → Int32
  | 0 => i0
  | n + 1 =>
    let y0_13 : Int32 := f_X0_allShares_13 B i0 n
    y0_13 + (B 0 n)
def f_X0_allShares (B : BK) : Int32 :=
  let y0_13 : Int32 := f_X0_allShares_13 B 0 6
  y0_13

set_option maxHeartbeats 4000000 in
set_option maxRecDepth 100000 in
theorem zc_X0_allShares (l : Launch) (D : va_G) (cA : Nat → ClassId) (a : Nat → Nat) (B : BK)  : Met l yX0_allShares wsX0_allShares (zrm 0 0) (zPc D cA [.ref (a 0)] (bkW (cA 0) a B)) (zE (some (.int (f_X0_allShares B)))) 0 0 (fun _ => False) := by
  refine Met.ofW (cc := cX0_allShares) (maxL := 6) (ret := (some .int)) (by decide) rfl ?_
  intro p e s m args below meth c s₁ Bd hml hv
  obtain ⟨rfl, hP, hK, hD0⟩ := hv
  have hx := Bd.exec
  have hb := Bd.bytes
  have hr := Bd.returns
  have hts := atoms_spec (ws := wsX0_allShares) Bd.pre
  have hown : s.vm.findClass RX0 = some m.cls := findClass_of_methodNamed Bd.named
  have hlocks := Bd.notSynchronized
  have hD := z_Dfr hD0
  have hS : va_S (zfr (bkW (cA 0) a B)) s.heap s.heap [] := va_S.rf
  have hi0 : ∀ w ∈ wsX00, w ∈ wsX0_allShares := fun w h => List.mem_cons_of_mem _ (List.mem_append_right _ h)
  have hl := lv_entry ([.ref (a 0)]) (n := 6) (Nat.le_of_ble_eq_true rfl)
  rw [lg_entry_eq]
  generalize (lg_sl ([.ref (a 0)]) ++ List.replicate (6 - (lg_sl ([.ref (a 0)])).length) Slot.unset).toArray = ls at hl ⊢
  have hl : lv_has ls 6 [(0, .ref (a 0))] := hl
  refine lv_iconst (v := 0) hx hb dX0_allShares_0 (by decide) ?_
  refine lv_istore_n (lv' := [(1, .int 0), (0, .ref (a 0))]) hx hb dX0_allShares_1 rfl hl (by decide) rfl (fun ls hl => ?_)
  refine lv_aload_n hx hb dX0_allShares_2 rfl (lv_at hl 1 rfl) ?_
  refine va_get (D := D) (ci := 0) (v := .ref (a 1)) (C := RX0) (T := TX0) (N := 16) hx hb hts hi0 hown hK hP 0 rfl rfl 0 (by decide) (hts (.fieldLink RX0 9 "PledgedLoans$Books" "shares" "[I") (List.mem_of_getElem? (i := 1) rfl)) (fun _ h9 => h9) rfl dX0_allShares_3 ?_
  refine lv_astore_n (lv' := [(2, .ref (a 1)), (1, .int 0), (0, .ref (a 0))]) hx hb dX0_allShares_6 rfl hl (by decide) rfl (fun ls hl => ?_)
  refine lv_aload_n hx hb dX0_allShares_7 rfl (lv_at hl 0 rfl) ?_
  refine va_alen (v := 6) hx hb hK hP 1 0 rfl rfl (by rfl) dX0_allShares_8 ?_
  refine lv_istore_n (lv' := [(3, .int 6), (2, .ref (a 1)), (1, .int 0), (0, .ref (a 0))]) hx hb dX0_allShares_9 rfl hl (by decide) rfl (fun ls hl => ?_)
  refine lv_iconst (v := 0) hx hb dX0_allShares_10 (by decide) ?_
  refine lv_istore (lv' := [(4, .int 0), (3, .int 6), (2, .ref (a 1)), (1, .int 0), (0, .ref (a 0))]) hx hb dX0_allShares_11 hl (by decide) rfl (fun ls hl => ?_)
  have loop_13 : ∀ (kk : Nat) (n : Nat) (y0_13 : Int32), n ≤ 6 → 6 - n < kk → y0_13 = f_X0_allShares_13 B 0 n → ∀ (ls : Array Slot), lv_has ls 6 [(0, .ref (a 0)), (2, .ref (a 1)), (3, .int 6), (1, .int y0_13), (4, .int (nI n))] → W p l e (headSpec wsX0_allShares (zrm 0 0)).room s m ([.ref (a 0)] : List Value).toArray below meth c s.heap [] 0 0 (MQ below (zE (some (.int (f_X0_allShares B)))) ([.ref (a 0)] : List Value).toArray s 0 0 (fun _ => False)) (F0 m 13 ls []) := by
    intro kk
    induction kk with
    | zero => intro n y0_13 _ h9; exact absurd h9 (Nat.not_lt_zero _)
    | succ kk ih_13 =>
      intro n y0_13 hn_13 hm_13 q_y0_13 ls hl
      refine lv_iload hx hb dX0_allShares_13 (lv_at hl 4 rfl) ?_
      refine lv_iload_n hx hb dX0_allShares_15 rfl (lv_at hl 2 rfl) ?_
      refine lv_icmp_ge (tgt := 36) hx hb dX0_allShares_16 (by decide) (fun c_1 => ?_) (fun c_1 => ?_)
      · have c_1 : 6 ≤ n := (nI_leI (a := 6) (b := n) (by omega) (by omega)).mp c_1
        obtain rfl : n = 6 := by omega
        refine lv_iload_n hx hb dX0_allShares_36 rfl (lv_at hl 3 rfl) ?_
        exact z_iretE hx hb hr hlocks dX0_allShares_37 (by subst q_y0_13; rfl)
      · have c_1 : ¬ 6 ≤ n := fun h9 => c_1 ((nI_leI (a := 6) (b := n) (by omega) (by omega)).mpr h9)
        refine lv_aload_n hx hb dX0_allShares_19 rfl (lv_at hl 1 rfl) ?_
        refine lv_iload hx hb dX0_allShares_20 (lv_at hl 4 rfl) ?_
        refine z_iald (j := n) hx hb hK hP 1 0 rfl rfl dX0_allShares_22 (by omega) (by decide) ?_
        refine lv_istore (lv' := [(5, .int (B 0 n)), (0, .ref (a 0)), (2, .ref (a 1)), (3, .int 6), (1, .int y0_13), (4, .int (nI n))]) hx hb dX0_allShares_23 hl (by decide) rfl (fun ls hl => ?_)
        refine lv_iload_n hx hb dX0_allShares_25 rfl (lv_at hl 4 rfl) ?_
        refine lv_iload hx hb dX0_allShares_26 (lv_at hl 0 rfl) ?_
        refine lv_iadd hx hb dX0_allShares_28 ?_
        refine lv_istore_n (lv' := [(1, .int (y0_13 + (B 0 n))), (5, .int (B 0 n)), (0, .ref (a 0)), (2, .ref (a 1)), (3, .int 6), (4, .int (nI n))]) hx hb dX0_allShares_29 rfl hl (by decide) rfl (fun ls hl => ?_)
        refine lv_iinc (v := nI (n + 1)) (lv' := [(4, .int (nI (n + 1))), (1, .int (y0_13 + (B 0 n))), (5, .int (B 0 n)), (0, .ref (a 0)), (2, .ref (a 1)), (3, .int 6)]) hx hb dX0_allShares_30 hl (k := 5) rfl (by rw [show (Int32.ofInt 1) = nI 1 from by decide]; exact nI_add n 1) (by decide) rfl (fun ls hl => ?_)
        refine lv_goto (tgt := 13) hx hb dX0_allShares_33 (by decide) ?_
        exact ih_13 (n + 1) _ (by omega) (by omega) (by subst q_y0_13; rfl) ls (lv_sub hl [3, 4, 5, 1, 0] rfl)
  exact loop_13 _ 0 _ (by omega) (Nat.lt_succ_self _) rfl ls (lv_sub hl [4, 2, 1, 3, 0] rfl)

theorem zy_X0_allRests : yX0_allRests.cls = RX0 ∧ yX0_allRests.cls ≠ "java/lang/invoke/MethodHandle" ∧ yX0_allRests.cls ≠ "java/lang/invoke/VarHandle" ∧ (parseMethodDescriptor yX0_allRests.desc).map (fun d => d.parameters.length) = some 0 := by decide +kernel
def f_X0_allRests_13 (B : BK) (i0 : Int32) : Nat → Int32
  | 0 => i0
  | n + 1 =>
    let y0_13 : Int32 := f_X0_allRests_13 B i0 n
    y0_13 + (B 3 n)
def f_X0_allRests (B : BK) : Int32 :=
  let y0_13 : Int32 := f_X0_allRests_13 B 0 6
  y0_13

set_option maxHeartbeats 4000000 in
set_option maxRecDepth 100000 in
theorem zc_X0_allRests (l : Launch) (D : va_G) (cA : Nat → ClassId) (a : Nat → Nat) (B : BK)  : Met l yX0_allRests wsX0_allRests (zrm 0 0) (zPc D cA [.ref (a 0)] (bkW (cA 0) a B)) (zE (some (.int (f_X0_allRests B)))) 0 0 (fun _ => False) := by
  refine Met.ofW (cc := cX0_allRests) (maxL := 6) (ret := (some .int)) (by decide) rfl ?_
  intro p e s m args below meth c s₁ Bd hml hv
  obtain ⟨rfl, hP, hK, hD0⟩ := hv
  have hx := Bd.exec
  have hb := Bd.bytes
  have hr := Bd.returns
  have hts := atoms_spec (ws := wsX0_allRests) Bd.pre
  have hown : s.vm.findClass RX0 = some m.cls := findClass_of_methodNamed Bd.named
  have hlocks := Bd.notSynchronized
  have hD := z_Dfr hD0
  have hS : va_S (zfr (bkW (cA 0) a B)) s.heap s.heap [] := va_S.rf
  have hi0 : ∀ w ∈ wsX00, w ∈ wsX0_allRests := fun w h => List.mem_cons_of_mem _ (List.mem_append_right _ h)
  have hl := lv_entry ([.ref (a 0)]) (n := 6) (Nat.le_of_ble_eq_true rfl)
  rw [lg_entry_eq]
  generalize (lg_sl ([.ref (a 0)]) ++ List.replicate (6 - (lg_sl ([.ref (a 0)])).length) Slot.unset).toArray = ls at hl ⊢
  have hl : lv_has ls 6 [(0, .ref (a 0))] := hl
  refine lv_iconst (v := 0) hx hb dX0_allRests_0 (by decide) ?_
  refine lv_istore_n (lv' := [(1, .int 0), (0, .ref (a 0))]) hx hb dX0_allRests_1 rfl hl (by decide) rfl (fun ls hl => ?_)
  refine lv_aload_n hx hb dX0_allRests_2 rfl (lv_at hl 1 rfl) ?_
  refine va_get (D := D) (ci := 0) (v := .ref (a 4)) (C := RX0) (T := TX0) (N := 16) hx hb hts hi0 hown hK hP 0 rfl rfl 3 (by decide) (hts (.fieldLink RX0 21 "PledgedLoans$Books" "rest" "[I") (List.mem_of_getElem? (i := 1) rfl)) (fun _ h9 => h9) rfl dX0_allRests_3 ?_
  refine lv_astore_n (lv' := [(2, .ref (a 4)), (1, .int 0), (0, .ref (a 0))]) hx hb dX0_allRests_6 rfl hl (by decide) rfl (fun ls hl => ?_)
  refine lv_aload_n hx hb dX0_allRests_7 rfl (lv_at hl 0 rfl) ?_
  refine va_alen (v := 6) hx hb hK hP 4 0 rfl rfl (by rfl) dX0_allRests_8 ?_
  refine lv_istore_n (lv' := [(3, .int 6), (2, .ref (a 4)), (1, .int 0), (0, .ref (a 0))]) hx hb dX0_allRests_9 rfl hl (by decide) rfl (fun ls hl => ?_)
  refine lv_iconst (v := 0) hx hb dX0_allRests_10 (by decide) ?_
  refine lv_istore (lv' := [(4, .int 0), (3, .int 6), (2, .ref (a 4)), (1, .int 0), (0, .ref (a 0))]) hx hb dX0_allRests_11 hl (by decide) rfl (fun ls hl => ?_)
  have loop_13 : ∀ (kk : Nat) (n : Nat) (y0_13 : Int32), n ≤ 6 → 6 - n < kk → y0_13 = f_X0_allRests_13 B 0 n → ∀ (ls : Array Slot), lv_has ls 6 [(0, .ref (a 0)), (2, .ref (a 4)), (3, .int 6), (1, .int y0_13), (4, .int (nI n))] → W p l e (headSpec wsX0_allRests (zrm 0 0)).room s m ([.ref (a 0)] : List Value).toArray below meth c s.heap [] 0 0 (MQ below (zE (some (.int (f_X0_allRests B)))) ([.ref (a 0)] : List Value).toArray s 0 0 (fun _ => False)) (F0 m 13 ls []) := by
    intro kk
    induction kk with
    | zero => intro n y0_13 _ h9; exact absurd h9 (Nat.not_lt_zero _)
    | succ kk ih_13 =>
      intro n y0_13 hn_13 hm_13 q_y0_13 ls hl
      refine lv_iload hx hb dX0_allRests_13 (lv_at hl 4 rfl) ?_
      refine lv_iload_n hx hb dX0_allRests_15 rfl (lv_at hl 2 rfl) ?_
      refine lv_icmp_ge (tgt := 36) hx hb dX0_allRests_16 (by decide) (fun c_1 => ?_) (fun c_1 => ?_)
      · have c_1 : 6 ≤ n := (nI_leI (a := 6) (b := n) (by omega) (by omega)).mp c_1
        obtain rfl : n = 6 := by omega
        refine lv_iload_n hx hb dX0_allRests_36 rfl (lv_at hl 3 rfl) ?_
        exact z_iretE hx hb hr hlocks dX0_allRests_37 (by subst q_y0_13; rfl)
      · have c_1 : ¬ 6 ≤ n := fun h9 => c_1 ((nI_leI (a := 6) (b := n) (by omega) (by omega)).mpr h9)
        refine lv_aload_n hx hb dX0_allRests_19 rfl (lv_at hl 1 rfl) ?_
        refine lv_iload hx hb dX0_allRests_20 (lv_at hl 4 rfl) ?_
        refine z_iald (j := n) hx hb hK hP 4 0 rfl rfl dX0_allRests_22 (by omega) (by decide) ?_
        refine lv_istore (lv' := [(5, .int (B 3 n)), (0, .ref (a 0)), (2, .ref (a 4)), (3, .int 6), (1, .int y0_13), (4, .int (nI n))]) hx hb dX0_allRests_23 hl (by decide) rfl (fun ls hl => ?_)
        refine lv_iload_n hx hb dX0_allRests_25 rfl (lv_at hl 4 rfl) ?_
        refine lv_iload hx hb dX0_allRests_26 (lv_at hl 0 rfl) ?_
        refine lv_iadd hx hb dX0_allRests_28 ?_
        refine lv_istore_n (lv' := [(1, .int (y0_13 + (B 3 n))), (5, .int (B 3 n)), (0, .ref (a 0)), (2, .ref (a 4)), (3, .int 6), (4, .int (nI n))]) hx hb dX0_allRests_29 rfl hl (by decide) rfl (fun ls hl => ?_)
        refine lv_iinc (v := nI (n + 1)) (lv' := [(4, .int (nI (n + 1))), (1, .int (y0_13 + (B 3 n))), (5, .int (B 3 n)), (0, .ref (a 0)), (2, .ref (a 4)), (3, .int 6)]) hx hb dX0_allRests_30 hl (k := 5) rfl (by rw [show (Int32.ofInt 1) = nI 1 from by decide]; exact nI_add n 1) (by decide) rfl (fun ls hl => ?_)
        refine lv_goto (tgt := 13) hx hb dX0_allRests_33 (by decide) ?_
        exact ih_13 (n + 1) _ (by omega) (by omega) (by subst q_y0_13; rfl) ls (lv_sub hl [3, 4, 5, 1, 0] rfl)
  exact loop_13 _ 0 _ (by omega) (Nat.lt_succ_self _) rfl ls (lv_sub hl [4, 2, 1, 3, 0] rfl)

theorem zy_X0_allShareDays : yX0_allShareDays.cls = RX0 ∧ yX0_allShareDays.cls ≠ "java/lang/invoke/MethodHandle" ∧ yX0_allShareDays.cls ≠ "java/lang/invoke/VarHandle" ∧ (parseMethodDescriptor yX0_allShareDays.desc).map (fun d => d.parameters.length) = some 0 := by decide +kernel
def f_X0_allShareDays_14 (B : BK) (i0 : Int64) : Nat → Int64
  | 0 => i0
  | n + 1 =>
    let y0_14 : Int64 := f_X0_allShareDays_14 B i0 n
    y0_14 + ((B 1 n).toInt64)
def f_X0_allShareDays (B : BK) : Int64 :=
  let y0_14 : Int64 := f_X0_allShareDays_14 B 0 6
  y0_14

set_option maxHeartbeats 4000000 in
set_option maxRecDepth 100000 in
theorem zc_X0_allShareDays (l : Launch) (D : va_G) (cA : Nat → ClassId) (a : Nat → Nat) (B : BK)  : Met l yX0_allShareDays wsX0_allShareDays (zrm 0 0) (zPc D cA [.ref (a 0)] (bkW (cA 0) a B)) (zE (some (.long (f_X0_allShareDays B)))) 0 0 (fun _ => False) := by
  refine Met.ofW (cc := cX0_allShareDays) (maxL := 7) (ret := (some .long)) (by decide) rfl ?_
  intro p e s m args below meth c s₁ Bd hml hv
  obtain ⟨rfl, hP, hK, hD0⟩ := hv
  have hx := Bd.exec
  have hb := Bd.bytes
  have hr := Bd.returns
  have hts := atoms_spec (ws := wsX0_allShareDays) Bd.pre
  have hown : s.vm.findClass RX0 = some m.cls := findClass_of_methodNamed Bd.named
  have hlocks := Bd.notSynchronized
  have hD := z_Dfr hD0
  have hS : va_S (zfr (bkW (cA 0) a B)) s.heap s.heap [] := va_S.rf
  have hi0 : ∀ w ∈ wsX00, w ∈ wsX0_allShareDays := fun w h => List.mem_cons_of_mem _ (List.mem_append_right _ h)
  have hl := lv_entry ([.ref (a 0)]) (n := 7) (Nat.le_of_ble_eq_true rfl)
  rw [lg_entry_eq]
  generalize (lg_sl ([.ref (a 0)]) ++ List.replicate (7 - (lg_sl ([.ref (a 0)])).length) Slot.unset).toArray = ls at hl ⊢
  have hl : lv_has ls 7 [(0, .ref (a 0))] := hl
  refine lv_lconst (v := 0) hx hb dX0_allShareDays_0 (by decide) ?_
  refine lv_lstore_n (lv' := [(1, .long 0), (0, .ref (a 0))]) hx hb dX0_allShareDays_1 rfl hl (by decide) rfl (fun ls hl => ?_)
  refine lv_aload_n hx hb dX0_allShareDays_2 rfl (lv_at hl 1 rfl) ?_
  refine va_get (D := D) (ci := 0) (v := .ref (a 2)) (C := RX0) (T := TX0) (N := 16) hx hb hts hi0 hown hK hP 0 rfl rfl 1 (by decide) (hts (.fieldLink RX0 15 "PledgedLoans$Books" "shareDays" "[I") (List.mem_of_getElem? (i := 1) rfl)) (fun _ h9 => h9) rfl dX0_allShareDays_3 ?_
  refine lv_astore_n (lv' := [(3, .ref (a 2)), (1, .long 0), (0, .ref (a 0))]) hx hb dX0_allShareDays_6 rfl hl (by decide) rfl (fun ls hl => ?_)
  refine lv_aload_n hx hb dX0_allShareDays_7 rfl (lv_at hl 0 rfl) ?_
  refine va_alen (v := 6) hx hb hK hP 2 0 rfl rfl (by rfl) dX0_allShareDays_8 ?_
  refine lv_istore (lv' := [(4, .int 6), (3, .ref (a 2)), (1, .long 0), (0, .ref (a 0))]) hx hb dX0_allShareDays_9 hl (by decide) rfl (fun ls hl => ?_)
  refine lv_iconst (v := 0) hx hb dX0_allShareDays_11 (by decide) ?_
  refine lv_istore (lv' := [(5, .int 0), (4, .int 6), (3, .ref (a 2)), (1, .long 0), (0, .ref (a 0))]) hx hb dX0_allShareDays_12 hl (by decide) rfl (fun ls hl => ?_)
  have loop_14 : ∀ (kk : Nat) (n : Nat) (y0_14 : Int64), n ≤ 6 → 6 - n < kk → y0_14 = f_X0_allShareDays_14 B 0 n → ∀ (ls : Array Slot), lv_has ls 7 [(0, .ref (a 0)), (3, .ref (a 2)), (4, .int 6), (1, .long y0_14), (5, .int (nI n))] → W p l e (headSpec wsX0_allShareDays (zrm 0 0)).room s m ([.ref (a 0)] : List Value).toArray below meth c s.heap [] 0 0 (MQ below (zE (some (.long (f_X0_allShareDays B)))) ([.ref (a 0)] : List Value).toArray s 0 0 (fun _ => False)) (F0 m 14 ls []) := by
    intro kk
    induction kk with
    | zero => intro n y0_14 _ h9; exact absurd h9 (Nat.not_lt_zero _)
    | succ kk ih_14 =>
      intro n y0_14 hn_14 hm_14 q_y0_14 ls hl
      refine lv_iload hx hb dX0_allShareDays_14 (lv_at hl 4 rfl) ?_
      refine lv_iload hx hb dX0_allShareDays_16 (lv_at hl 2 rfl) ?_
      refine lv_icmp_ge (tgt := 39) hx hb dX0_allShareDays_18 (by decide) (fun c_1 => ?_) (fun c_1 => ?_)
      · have c_1 : 6 ≤ n := (nI_leI (a := 6) (b := n) (by omega) (by omega)).mp c_1
        obtain rfl : n = 6 := by omega
        refine lv_lload_n hx hb dX0_allShareDays_39 rfl (lv_at hl 3 rfl) ?_
        exact z_lretE hx hb hr hlocks dX0_allShareDays_40 (by subst q_y0_14; rfl)
      · have c_1 : ¬ 6 ≤ n := fun h9 => c_1 ((nI_leI (a := 6) (b := n) (by omega) (by omega)).mpr h9)
        refine lv_aload_n hx hb dX0_allShareDays_21 rfl (lv_at hl 1 rfl) ?_
        refine lv_iload hx hb dX0_allShareDays_22 (lv_at hl 4 rfl) ?_
        refine z_iald (j := n) hx hb hK hP 2 0 rfl rfl dX0_allShareDays_24 (by omega) (by decide) ?_
        refine lv_istore (lv' := [(6, .int (B 1 n)), (0, .ref (a 0)), (3, .ref (a 2)), (4, .int 6), (1, .long y0_14), (5, .int (nI n))]) hx hb dX0_allShareDays_25 hl (by decide) rfl (fun ls hl => ?_)
        refine lv_lload_n hx hb dX0_allShareDays_27 rfl (lv_at hl 4 rfl) ?_
        refine lv_iload hx hb dX0_allShareDays_28 (lv_at hl 0 rfl) ?_
        refine lv_i2l (v := (B 1 n).toInt64) hx hb dX0_allShareDays_30 rfl ?_
        refine lv_ladd hx hb dX0_allShareDays_31 ?_
        refine lv_lstore_n (lv' := [(1, .long (y0_14 + ((B 1 n).toInt64))), (6, .int (B 1 n)), (0, .ref (a 0)), (3, .ref (a 2)), (4, .int 6), (5, .int (nI n))]) hx hb dX0_allShareDays_32 rfl hl (by decide) rfl (fun ls hl => ?_)
        refine lv_iinc (v := nI (n + 1)) (lv' := [(5, .int (nI (n + 1))), (1, .long (y0_14 + ((B 1 n).toInt64))), (6, .int (B 1 n)), (0, .ref (a 0)), (3, .ref (a 2)), (4, .int 6)]) hx hb dX0_allShareDays_33 hl (k := 5) rfl (by rw [show (Int32.ofInt 1) = nI 1 from by decide]; exact nI_add n 1) (by decide) rfl (fun ls hl => ?_)
        refine lv_goto (tgt := 14) hx hb dX0_allShareDays_36 (by decide) ?_
        exact ih_14 (n + 1) _ (by omega) (by omega) (by subst q_y0_14; rfl) ls (lv_sub hl [3, 4, 5, 1, 0] rfl)
  exact loop_14 _ 0 _ (by omega) (Nat.lt_succ_self _) rfl ls (lv_sub hl [4, 2, 1, 3, 0] rfl)

theorem zy_X0_hasLoan : yX0_hasLoan.cls = RX0 ∧ yX0_hasLoan.cls ≠ "java/lang/invoke/MethodHandle" ∧ yX0_hasLoan.cls ≠ "java/lang/invoke/VarHandle" ∧ (parseMethodDescriptor yX0_hasLoan.desc).map (fun d => d.parameters.length) = some 1 := by decide +kernel
def f_X0_hasLoan (B : BK) (mb : Nat) : Int32 :=
  if (B 3 mb) ≤ 0 then
    0
  else
    1

theorem zb_X0_hasLoan (B : BK) (mb : Nat) : narrow .boolean (.int (f_X0_hasLoan B mb)) = .int (f_X0_hasLoan B mb) := by
  unfold f_X0_hasLoan; repeat' split
  all_goals (first | rfl | (dsimp only; rfl))
set_option maxHeartbeats 4000000 in
set_option maxRecDepth 100000 in
theorem zc_X0_hasLoan (l : Launch) (D : va_G) (cA : Nat → ClassId) (a : Nat → Nat) (B : BK) (mb : Nat) (hmb : mb < 6) : Met l yX0_hasLoan wsX0_hasLoan (zrm 0 0) (zPc D cA [.ref (a 0), .int (nI mb)] (bkW (cA 0) a B)) (zE (some (.int (f_X0_hasLoan B mb)))) 0 0 (fun _ => False) := by
  refine Met.ofW (cc := cX0_hasLoan) (maxL := 2) (ret := (some .boolean)) (by decide) rfl ?_
  intro p e s m args below meth c s₁ Bd hml hv
  obtain ⟨rfl, hP, hK, hD0⟩ := hv
  have hx := Bd.exec
  have hb := Bd.bytes
  have hr := Bd.returns
  have hts := atoms_spec (ws := wsX0_hasLoan) Bd.pre
  have hown : s.vm.findClass RX0 = some m.cls := findClass_of_methodNamed Bd.named
  have hlocks := Bd.notSynchronized
  have hD := z_Dfr hD0
  have hS : va_S (zfr (bkW (cA 0) a B)) s.heap s.heap [] := va_S.rf
  have hi0 : ∀ w ∈ wsX00, w ∈ wsX0_hasLoan := fun w h => List.mem_cons_of_mem _ (List.mem_append_right _ h)
  have hl := lv_entry ([.ref (a 0), .int (nI mb)]) (n := 2) (Nat.le_of_ble_eq_true rfl)
  rw [lg_entry_eq]
  generalize (lg_sl ([.ref (a 0), .int (nI mb)]) ++ List.replicate (2 - (lg_sl ([.ref (a 0), .int (nI mb)])).length) Slot.unset).toArray = ls at hl ⊢
  have hl : lv_has ls 2 [(0, .ref (a 0)), (1, .int (nI mb))] := hl
  refine lv_aload_n hx hb dX0_hasLoan_0 rfl (lv_at hl 0 rfl) ?_
  refine va_get (D := D) (ci := 0) (v := .ref (a 4)) (C := RX0) (T := TX0) (N := 16) hx hb hts hi0 hown hK hP 0 rfl rfl 3 (by decide) (hts (.fieldLink RX0 21 "PledgedLoans$Books" "rest" "[I") (List.mem_of_getElem? (i := 1) rfl)) (fun _ h9 => h9) rfl dX0_hasLoan_1 ?_
  refine lv_iload_n hx hb dX0_hasLoan_4 rfl (lv_at hl 1 rfl) ?_
  refine z_iald (j := mb) hx hb hK hP 4 0 rfl rfl dX0_hasLoan_5 (by omega) (by decide) ?_
  refine lv_if_le (tgt := 13) hx hb dX0_hasLoan_6 (by decide) (fun c_1 => ?_) (fun c_1 => ?_)
  · refine lv_iconst (v := 0) hx hb dX0_hasLoan_13 (by decide) ?_
    exact z_zretE hx hb hr hlocks dX0_hasLoan_14 rfl (by simp only [f_X0_hasLoan, if_pos c_1])
  · refine lv_iconst (v := 1) hx hb dX0_hasLoan_9 (by decide) ?_
    refine lv_goto (tgt := 14) hx hb dX0_hasLoan_10 (by decide) ?_
    exact z_zretE hx hb hr hlocks dX0_hasLoan_14 rfl (by simp only [f_X0_hasLoan, if_neg c_1])

theorem zy_X0_loans : yX0_loans.cls = RX0 ∧ yX0_loans.cls ≠ "java/lang/invoke/MethodHandle" ∧ yX0_loans.cls ≠ "java/lang/invoke/VarHandle" ∧ (parseMethodDescriptor yX0_loans.desc).map (fun d => d.parameters.length) = some 0 := by decide +kernel
def f_X0_loans_4 (B : BK) (i0 : Int32) : Nat → Int32
  | 0 => i0
  | n + 1 =>
    let y0_4 : Int32 := f_X0_loans_4 B i0 n
    if (f_X0_hasLoan B n) = 0 then
      y0_4
    else
      y0_4 + 1
def f_X0_loans (B : BK) : Int32 :=
  let y0_4 : Int32 := f_X0_loans_4 B 0 6
  y0_4

set_option maxHeartbeats 4000000 in
set_option maxRecDepth 100000 in
theorem zc_X0_loans (l : Launch) (D : va_G) (cA : Nat → ClassId) (a : Nat → Nat) (B : BK)  : Met l yX0_loans wsX0_loans (zrm 1 21) (zPc D cA [.ref (a 0)] (bkW (cA 0) a B)) (zE (some (.int (f_X0_loans B)))) 0 0 (fun _ => False) := by
  refine Met.ofW (cc := cX0_loans) (maxL := 3) (ret := (some .int)) (by decide) rfl ?_
  intro p e s m args below meth c s₁ Bd hml hv
  obtain ⟨rfl, hP, hK, hD0⟩ := hv
  have hx := Bd.exec
  have hb := Bd.bytes
  have hr := Bd.returns
  have hts := atoms_spec (ws := wsX0_loans) Bd.pre
  have hown : s.vm.findClass RX0 = some m.cls := findClass_of_methodNamed Bd.named
  have hlocks := Bd.notSynchronized
  have hD := z_Dfr hD0
  have hS : va_S (zfr (bkW (cA 0) a B)) s.heap s.heap [] := va_S.rf
  have hi0 : ∀ w ∈ wsX00, w ∈ wsX0_loans := fun w h => List.mem_cons_of_mem _ (List.mem_append_right _ h)
  have hl := lv_entry ([.ref (a 0)]) (n := 3) (Nat.le_of_ble_eq_true rfl)
  rw [lg_entry_eq]
  generalize (lg_sl ([.ref (a 0)]) ++ List.replicate (3 - (lg_sl ([.ref (a 0)])).length) Slot.unset).toArray = ls at hl ⊢
  have hl : lv_has ls 3 [(0, .ref (a 0))] := hl
  refine lv_iconst (v := 0) hx hb dX0_loans_0 (by decide) ?_
  refine lv_istore_n (lv' := [(1, .int 0), (0, .ref (a 0))]) hx hb dX0_loans_1 rfl hl (by decide) rfl (fun ls hl => ?_)
  refine lv_iconst (v := 0) hx hb dX0_loans_2 (by decide) ?_
  refine lv_istore_n (lv' := [(2, .int 0), (1, .int 0), (0, .ref (a 0))]) hx hb dX0_loans_3 rfl hl (by decide) rfl (fun ls hl => ?_)
  have loop_4 : ∀ (kk : Nat) (n : Nat) (y0_4 : Int32), n ≤ 6 → 6 - n < kk → y0_4 = f_X0_loans_4 B 0 n → ∀ (ls : Array Slot), lv_has ls 3 [(0, .ref (a 0)), (1, .int y0_4), (2, .int (nI n))] → W p l e (headSpec wsX0_loans (zrm 1 21)).room s m ([.ref (a 0)] : List Value).toArray below meth c s.heap [] 0 0 (MQ below (zE (some (.int (f_X0_loans B)))) ([.ref (a 0)] : List Value).toArray s 0 0 (fun _ => False)) (F0 m 4 ls []) := by
    intro kk
    induction kk with
    | zero => intro n y0_4 _ h9; exact absurd h9 (Nat.not_lt_zero _)
    | succ kk ih_4 =>
      intro n y0_4 hn_4 hm_4 q_y0_4 ls hl
      refine lv_iload_n hx hb dX0_loans_4 rfl (lv_at hl 2 rfl) ?_
      refine lv_bipush (v := 6) hx hb dX0_loans_5 (by decide) ?_
      refine lv_icmp_ge (tgt := 27) hx hb dX0_loans_7 (by decide) (fun c_1 => ?_) (fun c_1 => ?_)
      · have c_1 : 6 ≤ n := (nI_leI (a := 6) (b := n) (by omega) (by omega)).mp c_1
        obtain rfl : n = 6 := by omega
        refine lv_iload_n hx hb dX0_loans_27 rfl (lv_at hl 1 rfl) ?_
        exact z_iretE hx hb hr hlocks dX0_loans_28 (by subst q_y0_4; rfl)
      · have c_1 : ¬ 6 ≤ n := fun h9 => c_1 ((nI_leI (a := 6) (b := n) (by omega) (by omega)).mpr h9)
        refine lv_aload_n hx hb dX0_loans_10 rfl (lv_at hl 0 rfl) ?_
        refine lv_iload_n hx hb dX0_loans_11 rfl (lv_at hl 2 rfl) ?_
        refine z_E (va_runV (As := [.int (nI n)]) (rest := []) ⟨hx, hb, hml, hown, hts⟩ (zc_X0_hasLoan l D cA a B n (by omega)) (cwV 1 hts gX0_loans_X0_hasLoan rfl rfl rfl zy_X0_hasLoan ⟨Nat.le_of_ble_eq_true rfl, Nat.le_of_ble_eq_true rfl⟩) (z_preV (ci := 0) hK hP hD rfl rfl) rfl rfl hl.1 rfl (lv_room (Nat.le_of_ble_eq_true rfl)) dX0_loans_12 ⟨Nat.zero_le _, Nat.zero_le _⟩) rfl ?_
        refine lv_if_eq (tgt := 21) hx hb dX0_loans_15 (by decide) (fun c_2 => ?_) (fun c_2 => ?_)
        · refine lv_iinc (v := nI (n + 1)) (lv' := [(2, .int (nI (n + 1))), (0, .ref (a 0)), (1, .int y0_4)]) hx hb dX0_loans_21 hl (k := 2) rfl (by rw [show (Int32.ofInt 1) = nI 1 from by decide]; exact nI_add n 1) (by decide) rfl (fun ls hl => ?_)
          refine lv_goto (tgt := 4) hx hb dX0_loans_24 (by decide) ?_
          exact ih_4 (n + 1) _ (by omega) (by omega) (by subst q_y0_4; simp only [f_X0_loans_4, if_pos c_2]) ls (lv_sub hl [1, 2, 0] rfl)
        · refine lv_iinc (v := y0_4 + 1) (lv' := [(1, .int (y0_4 + 1)), (0, .ref (a 0)), (2, .int (nI n))]) hx hb dX0_loans_18 hl (k := 1) rfl (by rfl) (by decide) rfl (fun ls hl => ?_)
          refine lv_iinc (v := nI (n + 1)) (lv' := [(2, .int (nI (n + 1))), (1, .int (y0_4 + 1)), (0, .ref (a 0))]) hx hb dX0_loans_21 hl (k := 2) rfl (by rw [show (Int32.ofInt 1) = nI 1 from by decide]; exact nI_add n 1) (by decide) rfl (fun ls hl => ?_)
          refine lv_goto (tgt := 4) hx hb dX0_loans_24 (by decide) ?_
          exact ih_4 (n + 1) _ (by omega) (by omega) (by subst q_y0_4; simp only [f_X0_loans_4, if_neg c_2]) ls (lv_sub hl [2, 1, 0] rfl)
  exact loop_4 _ 0 _ (by omega) (Nat.lt_succ_self _) rfl ls (lv_sub hl [2, 1, 0] rfl)

theorem zy_X0_pledgedBy : yX0_pledgedBy.cls = RX0 ∧ yX0_pledgedBy.cls ≠ "java/lang/invoke/MethodHandle" ∧ yX0_pledgedBy.cls ≠ "java/lang/invoke/VarHandle" ∧ (parseMethodDescriptor yX0_pledgedBy.desc).map (fun d => d.parameters.length) = some 1 := by decide +kernel
def f_X0_pledgedBy_10 (B : BK) (mb : Nat) (i0 : Int32) : Nat → Int32
  | 0 => i0
  | n + 1 =>
    let y0_10 : Int32 := f_X0_pledgedBy_10 B mb i0 n
    y0_10 + (B 2 ((mb * 6) + n))
def f_X0_pledgedBy (B : BK) (mb : Nat) : Int32 :=
  let y0_10 : Int32 := f_X0_pledgedBy_10 B mb 0 6
  y0_10

set_option maxHeartbeats 4000000 in
set_option maxRecDepth 100000 in
theorem zc_X0_pledgedBy (l : Launch) (D : va_G) (cA : Nat → ClassId) (a : Nat → Nat) (B : BK) (mb : Nat) (hmb : mb < 6) : Met l yX0_pledgedBy wsX0_pledgedBy (zrm 0 0) (zPc D cA [.ref (a 0), .int (nI mb)] (bkW (cA 0) a B)) (zE (some (.int (f_X0_pledgedBy B mb)))) 0 0 (fun _ => False) := by
  refine Met.ofW (cc := cX0_pledgedBy) (maxL := 5) (ret := (some .int)) (by decide) rfl ?_
  intro p e s m args below meth c s₁ Bd hml hv
  obtain ⟨rfl, hP, hK, hD0⟩ := hv
  have hx := Bd.exec
  have hb := Bd.bytes
  have hr := Bd.returns
  have hts := atoms_spec (ws := wsX0_pledgedBy) Bd.pre
  have hown : s.vm.findClass RX0 = some m.cls := findClass_of_methodNamed Bd.named
  have hlocks := Bd.notSynchronized
  have hD := z_Dfr hD0
  have hS : va_S (zfr (bkW (cA 0) a B)) s.heap s.heap [] := va_S.rf
  have hi0 : ∀ w ∈ wsX00, w ∈ wsX0_pledgedBy := fun w h => List.mem_cons_of_mem _ (List.mem_append_right _ h)
  have hl := lv_entry ([.ref (a 0), .int (nI mb)]) (n := 5) (Nat.le_of_ble_eq_true rfl)
  rw [lg_entry_eq]
  generalize (lg_sl ([.ref (a 0), .int (nI mb)]) ++ List.replicate (5 - (lg_sl ([.ref (a 0), .int (nI mb)])).length) Slot.unset).toArray = ls at hl ⊢
  have hl : lv_has ls 5 [(0, .ref (a 0)), (1, .int (nI mb))] := hl
  refine lv_iconst (v := 0) hx hb dX0_pledgedBy_0 (by decide) ?_
  refine lv_istore_n (lv' := [(2, .int 0), (0, .ref (a 0)), (1, .int (nI mb))]) hx hb dX0_pledgedBy_1 rfl hl (by decide) rfl (fun ls hl => ?_)
  refine lv_iload_n hx hb dX0_pledgedBy_2 rfl (lv_at hl 2 rfl) ?_
  refine lv_bipush (v := 6) hx hb dX0_pledgedBy_3 (by decide) ?_
  refine lv_imul hx hb dX0_pledgedBy_5 ?_
  refine z_top (pk_mul mb 6) ?_
  refine lv_istore_n (lv' := [(3, .int (nI (mb * 6))), (2, .int 0), (0, .ref (a 0)), (1, .int (nI mb))]) hx hb dX0_pledgedBy_6 rfl hl (by decide) rfl (fun ls hl => ?_)
  refine lv_iconst (v := 0) hx hb dX0_pledgedBy_7 (by decide) ?_
  refine lv_istore (lv' := [(4, .int 0), (3, .int (nI (mb * 6))), (2, .int 0), (0, .ref (a 0)), (1, .int (nI mb))]) hx hb dX0_pledgedBy_8 hl (by decide) rfl (fun ls hl => ?_)
  have loop_10 : ∀ (kk : Nat) (n : Nat) (y0_10 : Int32), n ≤ 6 → 6 - n < kk → y0_10 = f_X0_pledgedBy_10 B mb 0 n → ∀ (ls : Array Slot), lv_has ls 5 [(0, .ref (a 0)), (1, .int (nI mb)), (3, .int (nI (mb * 6))), (2, .int y0_10), (4, .int (nI n))] → W p l e (headSpec wsX0_pledgedBy (zrm 0 0)).room s m ([.ref (a 0), .int (nI mb)] : List Value).toArray below meth c s.heap [] 0 0 (MQ below (zE (some (.int (f_X0_pledgedBy B mb)))) ([.ref (a 0), .int (nI mb)] : List Value).toArray s 0 0 (fun _ => False)) (F0 m 10 ls []) := by
    intro kk
    induction kk with
    | zero => intro n y0_10 _ h9; exact absurd h9 (Nat.not_lt_zero _)
    | succ kk ih_10 =>
      intro n y0_10 hn_10 hm_10 q_y0_10 ls hl
      refine lv_iload hx hb dX0_pledgedBy_10 (lv_at hl 4 rfl) ?_
      refine lv_bipush (v := 6) hx hb dX0_pledgedBy_12 (by decide) ?_
      refine lv_icmp_ge (tgt := 35) hx hb dX0_pledgedBy_14 (by decide) (fun c_1 => ?_) (fun c_1 => ?_)
      · have c_1 : 6 ≤ n := (nI_leI (a := 6) (b := n) (by omega) (by omega)).mp c_1
        obtain rfl : n = 6 := by omega
        refine lv_iload_n hx hb dX0_pledgedBy_35 rfl (lv_at hl 3 rfl) ?_
        exact z_iretE hx hb hr hlocks dX0_pledgedBy_36 (by subst q_y0_10; rfl)
      · have c_1 : ¬ 6 ≤ n := fun h9 => c_1 ((nI_leI (a := 6) (b := n) (by omega) (by omega)).mpr h9)
        refine lv_iload_n hx hb dX0_pledgedBy_17 rfl (lv_at hl 3 rfl) ?_
        refine lv_aload_n hx hb dX0_pledgedBy_18 rfl (lv_at hl 0 rfl) ?_
        refine va_get (D := D) (ci := 0) (v := .ref (a 3)) (C := RX0) (T := TX0) (N := 16) hx hb hts hi0 hown hK hP 0 rfl rfl 2 (by decide) (hts (.fieldLink RX0 18 "PledgedLoans$Books" "pledges" "[I") (List.mem_of_getElem? (i := 1) rfl)) (fun _ h9 => h9) rfl dX0_pledgedBy_19 ?_
        refine lv_iload_n hx hb dX0_pledgedBy_22 rfl (lv_at hl 2 rfl) ?_
        refine lv_iload hx hb dX0_pledgedBy_23 (lv_at hl 4 rfl) ?_
        refine lv_iadd hx hb dX0_pledgedBy_25 ?_
        refine z_top (nI_add (mb * 6) n) ?_
        refine z_iald (j := (mb * 6) + n) hx hb hK hP 3 0 rfl rfl dX0_pledgedBy_26 (by omega) (by decide) ?_
        refine lv_iadd hx hb dX0_pledgedBy_27 ?_
        refine lv_istore_n (lv' := [(2, .int (y0_10 + (B 2 ((mb * 6) + n)))), (0, .ref (a 0)), (1, .int (nI mb)), (3, .int (nI (mb * 6))), (4, .int (nI n))]) hx hb dX0_pledgedBy_28 rfl hl (by decide) rfl (fun ls hl => ?_)
        refine lv_iinc (v := nI (n + 1)) (lv' := [(4, .int (nI (n + 1))), (2, .int (y0_10 + (B 2 ((mb * 6) + n)))), (0, .ref (a 0)), (1, .int (nI mb)), (3, .int (nI (mb * 6)))]) hx hb dX0_pledgedBy_29 hl (k := 4) rfl (by rw [show (Int32.ofInt 1) = nI 1 from by decide]; exact nI_add n 1) (by decide) rfl (fun ls hl => ?_)
        refine lv_goto (tgt := 10) hx hb dX0_pledgedBy_32 (by decide) ?_
        exact ih_10 (n + 1) _ (by omega) (by omega) (by subst q_y0_10; rfl) ls (lv_sub hl [2, 3, 4, 1, 0] rfl)
  exact loop_10 _ 0 _ (by omega) (Nat.lt_succ_self _) rfl ls (lv_sub hl [3, 4, 1, 2, 0] rfl)

theorem zy_X0_pledgedFor : yX0_pledgedFor.cls = RX0 ∧ yX0_pledgedFor.cls ≠ "java/lang/invoke/MethodHandle" ∧ yX0_pledgedFor.cls ≠ "java/lang/invoke/VarHandle" ∧ (parseMethodDescriptor yX0_pledgedFor.desc).map (fun d => d.parameters.length) = some 1 := by decide +kernel
def f_X0_pledgedFor_4 (B : BK) (mb : Nat) : Nat → Nat → Int32 → Int32
  | 0, q, x => 0
  | k + 1, q, x =>
    if 36 ≤ q then
      x
    else
      f_X0_pledgedFor_4 B mb k (q + 6) (x + (B 2 q))
def f_X0_pledgedFor (B : BK) (mb : Nat) : Int32 :=
  f_X0_pledgedFor_4 B mb 43 mb 0

set_option maxHeartbeats 4000000 in
set_option maxRecDepth 100000 in
theorem zc_X0_pledgedFor (l : Launch) (D : va_G) (cA : Nat → ClassId) (a : Nat → Nat) (B : BK) (mb : Nat) (hmb : mb < 6) : Met l yX0_pledgedFor wsX0_pledgedFor (zrm 0 0) (zPc D cA [.ref (a 0), .int (nI mb)] (bkW (cA 0) a B)) (zE (some (.int (f_X0_pledgedFor B mb)))) 0 0 (fun _ => False) := by
  refine Met.ofW (cc := cX0_pledgedFor) (maxL := 4) (ret := (some .int)) (by decide) rfl ?_
  intro p e s m args below meth c s₁ Bd hml hv
  obtain ⟨rfl, hP, hK, hD0⟩ := hv
  have hx := Bd.exec
  have hb := Bd.bytes
  have hr := Bd.returns
  have hts := atoms_spec (ws := wsX0_pledgedFor) Bd.pre
  have hown : s.vm.findClass RX0 = some m.cls := findClass_of_methodNamed Bd.named
  have hlocks := Bd.notSynchronized
  have hD := z_Dfr hD0
  have hS : va_S (zfr (bkW (cA 0) a B)) s.heap s.heap [] := va_S.rf
  have hi0 : ∀ w ∈ wsX00, w ∈ wsX0_pledgedFor := fun w h => List.mem_cons_of_mem _ (List.mem_append_right _ h)
  have hl := lv_entry ([.ref (a 0), .int (nI mb)]) (n := 4) (Nat.le_of_ble_eq_true rfl)
  rw [lg_entry_eq]
  generalize (lg_sl ([.ref (a 0), .int (nI mb)]) ++ List.replicate (4 - (lg_sl ([.ref (a 0), .int (nI mb)])).length) Slot.unset).toArray = ls at hl ⊢
  have hl : lv_has ls 4 [(0, .ref (a 0)), (1, .int (nI mb))] := hl
  refine lv_iconst (v := 0) hx hb dX0_pledgedFor_0 (by decide) ?_
  refine lv_istore_n (lv' := [(2, .int 0), (0, .ref (a 0)), (1, .int (nI mb))]) hx hb dX0_pledgedFor_1 rfl hl (by decide) rfl (fun ls hl => ?_)
  refine lv_iload_n hx hb dX0_pledgedFor_2 rfl (lv_at hl 2 rfl) ?_
  refine lv_istore_n (lv' := [(3, .int (nI mb)), (2, .int 0), (0, .ref (a 0)), (1, .int (nI mb))]) hx hb dX0_pledgedFor_3 rfl hl (by decide) rfl (fun ls hl => ?_)
  have loop_4 : ∀ (kk : Nat) (q : Nat) (x : Int32), 36 + 6 - q < kk → q < 42 → f_X0_pledgedFor B mb = f_X0_pledgedFor_4 B mb kk q x → ∀ (ls : Array Slot), lv_has ls 4 [(0, .ref (a 0)), (1, .int (nI mb)), (3, .int (nI q)), (2, .int x)] → W p l e (headSpec wsX0_pledgedFor (zrm 0 0)).room s m ([.ref (a 0), .int (nI mb)] : List Value).toArray below meth c s.heap [] 0 0 (MQ below (zE (some (.int (f_X0_pledgedFor B mb)))) ([.ref (a 0), .int (nI mb)] : List Value).toArray s 0 0 (fun _ => False)) (F0 m 4 ls []) := by
    intro kk
    induction kk with
    | zero => intro q x h9; exact absurd h9 (Nat.not_lt_zero _)
    | succ kk ih_4 =>
      intro q x hm_4 hi0_4 hres_4 ls hl
      refine lv_iload_n hx hb dX0_pledgedFor_4 rfl (lv_at hl 2 rfl) ?_
      refine lv_aload_n hx hb dX0_pledgedFor_5 rfl (lv_at hl 0 rfl) ?_
      refine va_get (D := D) (ci := 0) (v := .ref (a 3)) (C := RX0) (T := TX0) (N := 16) hx hb hts hi0 hown hK hP 0 rfl rfl 2 (by decide) (hts (.fieldLink RX0 18 "PledgedLoans$Books" "pledges" "[I") (List.mem_of_getElem? (i := 1) rfl)) (fun _ h9 => h9) rfl dX0_pledgedFor_6 ?_
      refine va_alen (v := 36) hx hb hK hP 3 0 rfl rfl (by rfl) dX0_pledgedFor_9 ?_
      refine lv_icmp_ge (tgt := 28) hx hb dX0_pledgedFor_10 (by decide) (fun c_1 => ?_) (fun c_1 => ?_)
      · have c_1 : 36 ≤ q := (nI_leI (a := 36) (b := q) (by omega) (by omega)).mp c_1
        refine lv_iload_n hx hb dX0_pledgedFor_28 rfl (lv_at hl 3 rfl) ?_
        exact z_iretE hx hb hr hlocks dX0_pledgedFor_29 (by rw [hres_4]; simp only [f_X0_pledgedFor_4, if_pos c_1])
      · have c_1 : ¬ 36 ≤ q := fun h9 => c_1 ((nI_leI (a := 36) (b := q) (by omega) (by omega)).mpr h9)
        refine lv_iload_n hx hb dX0_pledgedFor_13 rfl (lv_at hl 3 rfl) ?_
        refine lv_aload_n hx hb dX0_pledgedFor_14 rfl (lv_at hl 0 rfl) ?_
        refine va_get (D := D) (ci := 0) (v := .ref (a 3)) (C := RX0) (T := TX0) (N := 16) hx hb hts hi0 hown hK hP 0 rfl rfl 2 (by decide) (hts (.fieldLink RX0 18 "PledgedLoans$Books" "pledges" "[I") (List.mem_of_getElem? (i := 1) rfl)) (fun _ h9 => h9) rfl dX0_pledgedFor_15 ?_
        refine lv_iload_n hx hb dX0_pledgedFor_18 rfl (lv_at hl 2 rfl) ?_
        refine z_iald (j := q) hx hb hK hP 3 0 rfl rfl dX0_pledgedFor_19 (by omega) (by decide) ?_
        refine lv_iadd hx hb dX0_pledgedFor_20 ?_
        refine lv_istore_n (lv' := [(2, .int (x + (B 2 q))), (0, .ref (a 0)), (1, .int (nI mb)), (3, .int (nI q))]) hx hb dX0_pledgedFor_21 rfl hl (by decide) rfl (fun ls hl => ?_)
        refine lv_iinc (v := nI (q + 6)) (lv' := [(3, .int (nI (q + 6))), (2, .int (x + (B 2 q))), (0, .ref (a 0)), (1, .int (nI mb))]) hx hb dX0_pledgedFor_22 hl (k := 3) rfl (by rw [show (Int32.ofInt 6) = nI 6 from by decide]; exact nI_add q 6) (by decide) rfl (fun ls hl => ?_)
        refine lv_goto (tgt := 4) hx hb dX0_pledgedFor_25 (by decide) ?_
        exact ih_4 (q + 6) (x + (B 2 q)) (by omega) (by omega) (by rw [hres_4]; simp only [f_X0_pledgedFor_4, if_neg c_1]) ls (lv_sub hl [2, 3, 0, 1] rfl)
  exact loop_4 43 mb 0 (by omega) (by omega) (by rfl) ls (lv_sub hl [2, 3, 0, 1] rfl)

theorem zy_X0_ownLeft : yX0_ownLeft.cls = RX0 ∧ yX0_ownLeft.cls ≠ "java/lang/invoke/MethodHandle" ∧ yX0_ownLeft.cls ≠ "java/lang/invoke/VarHandle" ∧ (parseMethodDescriptor yX0_ownLeft.desc).map (fun d => d.parameters.length) = some 1 := by decide +kernel
def f_X0_ownLeft (B : BK) (mb : Nat) : Int32 :=
  (B 0 mb) - (f_X0_pledgedBy B mb)

set_option maxHeartbeats 4000000 in
set_option maxRecDepth 100000 in
theorem zc_X0_ownLeft (l : Launch) (D : va_G) (cA : Nat → ClassId) (a : Nat → Nat) (B : BK) (mb : Nat) (hmb : mb < 6) : Met l yX0_ownLeft wsX0_ownLeft (zrm 1 24) (zPc D cA [.ref (a 0), .int (nI mb)] (bkW (cA 0) a B)) (zE (some (.int (f_X0_ownLeft B mb)))) 0 0 (fun _ => False) := by
  refine Met.ofW (cc := cX0_ownLeft) (maxL := 2) (ret := (some .int)) (by decide) rfl ?_
  intro p e s m args below meth c s₁ Bd hml hv
  obtain ⟨rfl, hP, hK, hD0⟩ := hv
  have hx := Bd.exec
  have hb := Bd.bytes
  have hr := Bd.returns
  have hts := atoms_spec (ws := wsX0_ownLeft) Bd.pre
  have hown : s.vm.findClass RX0 = some m.cls := findClass_of_methodNamed Bd.named
  have hlocks := Bd.notSynchronized
  have hD := z_Dfr hD0
  have hS : va_S (zfr (bkW (cA 0) a B)) s.heap s.heap [] := va_S.rf
  have hi0 : ∀ w ∈ wsX00, w ∈ wsX0_ownLeft := fun w h => List.mem_cons_of_mem _ (List.mem_append_right _ h)
  have hl := lv_entry ([.ref (a 0), .int (nI mb)]) (n := 2) (Nat.le_of_ble_eq_true rfl)
  rw [lg_entry_eq]
  generalize (lg_sl ([.ref (a 0), .int (nI mb)]) ++ List.replicate (2 - (lg_sl ([.ref (a 0), .int (nI mb)])).length) Slot.unset).toArray = ls at hl ⊢
  have hl : lv_has ls 2 [(0, .ref (a 0)), (1, .int (nI mb))] := hl
  refine lv_aload_n hx hb dX0_ownLeft_0 rfl (lv_at hl 0 rfl) ?_
  refine va_get (D := D) (ci := 0) (v := .ref (a 1)) (C := RX0) (T := TX0) (N := 16) hx hb hts hi0 hown hK hP 0 rfl rfl 0 (by decide) (hts (.fieldLink RX0 9 "PledgedLoans$Books" "shares" "[I") (List.mem_of_getElem? (i := 1) rfl)) (fun _ h9 => h9) rfl dX0_ownLeft_1 ?_
  refine lv_iload_n hx hb dX0_ownLeft_4 rfl (lv_at hl 1 rfl) ?_
  refine z_iald (j := mb) hx hb hK hP 1 0 rfl rfl dX0_ownLeft_5 (by omega) (by decide) ?_
  refine lv_aload_n hx hb dX0_ownLeft_6 rfl (lv_at hl 0 rfl) ?_
  refine lv_iload_n hx hb dX0_ownLeft_7 rfl (lv_at hl 1 rfl) ?_
  refine z_E (va_runV (As := [.int (nI mb)]) (rest := [.int (B 0 mb)]) ⟨hx, hb, hml, hown, hts⟩ (zc_X0_pledgedBy l D cA a B mb (by omega)) (cwV 1 hts gX0_ownLeft_X0_pledgedBy rfl rfl rfl zy_X0_pledgedBy ⟨Nat.le_of_ble_eq_true rfl, Nat.le_of_ble_eq_true rfl⟩) (z_preV (ci := 0) hK hP hD rfl rfl) rfl rfl hl.1 rfl (lv_room (Nat.le_of_ble_eq_true rfl)) dX0_ownLeft_8 ⟨Nat.zero_le _, Nat.zero_le _⟩) rfl ?_
  refine lv_isub hx hb dX0_ownLeft_11 ?_
  exact z_iretE hx hb hr hlocks dX0_ownLeft_12 (by rfl)

theorem zy_X0_cover : yX0_cover.cls = RX0 ∧ yX0_cover.cls ≠ "java/lang/invoke/MethodHandle" ∧ yX0_cover.cls ≠ "java/lang/invoke/VarHandle" ∧ (parseMethodDescriptor yX0_cover.desc).map (fun d => d.parameters.length) = some 1 := by decide +kernel
def f_X0_cover (B : BK) (mb : Nat) : Int32 :=
  (f_X0_ownLeft B mb) + (f_X0_pledgedFor B mb)

set_option maxHeartbeats 4000000 in
set_option maxRecDepth 100000 in
theorem zc_X0_cover (l : Launch) (D : va_G) (cA : Nat → ClassId) (a : Nat → Nat) (B : BK) (mb : Nat) (hmb : mb < 6) : Met l yX0_cover wsX0_cover (zrm 2 45) (zPc D cA [.ref (a 0), .int (nI mb)] (bkW (cA 0) a B)) (zE (some (.int (f_X0_cover B mb)))) 0 0 (fun _ => False) := by
  refine Met.ofW (cc := cX0_cover) (maxL := 2) (ret := (some .int)) (by decide) rfl ?_
  intro p e s m args below meth c s₁ Bd hml hv
  obtain ⟨rfl, hP, hK, hD0⟩ := hv
  have hx := Bd.exec
  have hb := Bd.bytes
  have hr := Bd.returns
  have hts := atoms_spec (ws := wsX0_cover) Bd.pre
  have hown : s.vm.findClass RX0 = some m.cls := findClass_of_methodNamed Bd.named
  have hlocks := Bd.notSynchronized
  have hD := z_Dfr hD0
  have hS : va_S (zfr (bkW (cA 0) a B)) s.heap s.heap [] := va_S.rf
  have hi0 : ∀ w ∈ wsX00, w ∈ wsX0_cover := fun w h => List.mem_cons_of_mem _ (List.mem_append_right _ h)
  have hl := lv_entry ([.ref (a 0), .int (nI mb)]) (n := 2) (Nat.le_of_ble_eq_true rfl)
  rw [lg_entry_eq]
  generalize (lg_sl ([.ref (a 0), .int (nI mb)]) ++ List.replicate (2 - (lg_sl ([.ref (a 0), .int (nI mb)])).length) Slot.unset).toArray = ls at hl ⊢
  have hl : lv_has ls 2 [(0, .ref (a 0)), (1, .int (nI mb))] := hl
  refine lv_aload_n hx hb dX0_cover_0 rfl (lv_at hl 0 rfl) ?_
  refine lv_iload_n hx hb dX0_cover_1 rfl (lv_at hl 1 rfl) ?_
  refine z_E (va_runV (As := [.int (nI mb)]) (rest := []) ⟨hx, hb, hml, hown, hts⟩ (zc_X0_ownLeft l D cA a B mb (by omega)) (cwV 1 hts gX0_cover_X0_ownLeft rfl rfl rfl zy_X0_ownLeft ⟨Nat.le_of_ble_eq_true rfl, Nat.le_of_ble_eq_true rfl⟩) (z_preV (ci := 0) hK hP hD rfl rfl) rfl rfl hl.1 rfl (lv_room (Nat.le_of_ble_eq_true rfl)) dX0_cover_2 ⟨Nat.zero_le _, Nat.zero_le _⟩) rfl ?_
  refine lv_aload_n hx hb dX0_cover_5 rfl (lv_at hl 0 rfl) ?_
  refine lv_iload_n hx hb dX0_cover_6 rfl (lv_at hl 1 rfl) ?_
  refine z_E (va_runV (As := [.int (nI mb)]) (rest := [.int (f_X0_ownLeft B mb)]) ⟨hx, hb, hml, hown, hts⟩ (zc_X0_pledgedFor l D cA a B mb (by omega)) (cwV 1 hts gX0_cover_X0_pledgedFor rfl rfl rfl zy_X0_pledgedFor ⟨Nat.le_of_ble_eq_true rfl, Nat.le_of_ble_eq_true rfl⟩) (z_preV (ci := 0) hK hP hD rfl rfl) rfl rfl hl.1 rfl (lv_room (Nat.le_of_ble_eq_true rfl)) dX0_cover_7 ⟨Nat.zero_le _, Nat.zero_le _⟩) rfl ?_
  refine lv_iadd hx hb dX0_cover_10 ?_
  exact z_iretE hx hb hr hlocks dX0_cover_11 (by rfl)

theorem zy_X0_freeShares : yX0_freeShares.cls = RX0 ∧ yX0_freeShares.cls ≠ "java/lang/invoke/MethodHandle" ∧ yX0_freeShares.cls ≠ "java/lang/invoke/VarHandle" ∧ (parseMethodDescriptor yX0_freeShares.desc).map (fun d => d.parameters.length) = some 1 := by decide +kernel
def f_X0_freeShares (B : BK) (mb : Nat) : Int32 :=
  (f_X0_ownLeft B mb) - (zmax 0 ((B 3 mb) - (f_X0_pledgedFor B mb)))

set_option maxHeartbeats 4000000 in
set_option maxRecDepth 100000 in
theorem zc_X0_freeShares (l : Launch) (D : va_G) (cA : Nat → ClassId) (a : Nat → Nat) (B : BK) (mb : Nat) (hmb : mb < 6) : Met l yX0_freeShares wsX0_freeShares (zrm 2 45) (zPc D cA [.ref (a 0), .int (nI mb)] (bkW (cA 0) a B)) (zE (some (.int (f_X0_freeShares B mb)))) 0 0 (fun _ => False) := by
  refine Met.ofW (cc := cX0_freeShares) (maxL := 2) (ret := (some .int)) (by decide) rfl ?_
  intro p e s m args below meth c s₁ Bd hml hv
  obtain ⟨rfl, hP, hK, hD0⟩ := hv
  have hx := Bd.exec
  have hb := Bd.bytes
  have hr := Bd.returns
  have hts := atoms_spec (ws := wsX0_freeShares) Bd.pre
  have hown : s.vm.findClass RX0 = some m.cls := findClass_of_methodNamed Bd.named
  have hlocks := Bd.notSynchronized
  have hD := z_Dfr hD0
  have hS : va_S (zfr (bkW (cA 0) a B)) s.heap s.heap [] := va_S.rf
  have hi0 : ∀ w ∈ wsX00, w ∈ wsX0_freeShares := fun w h => List.mem_cons_of_mem _ (List.mem_append_right _ h)
  have hl := lv_entry ([.ref (a 0), .int (nI mb)]) (n := 2) (Nat.le_of_ble_eq_true rfl)
  rw [lg_entry_eq]
  generalize (lg_sl ([.ref (a 0), .int (nI mb)]) ++ List.replicate (2 - (lg_sl ([.ref (a 0), .int (nI mb)])).length) Slot.unset).toArray = ls at hl ⊢
  have hl : lv_has ls 2 [(0, .ref (a 0)), (1, .int (nI mb))] := hl
  refine lv_aload_n hx hb dX0_freeShares_0 rfl (lv_at hl 0 rfl) ?_
  refine lv_iload_n hx hb dX0_freeShares_1 rfl (lv_at hl 1 rfl) ?_
  refine z_E (va_runV (As := [.int (nI mb)]) (rest := []) ⟨hx, hb, hml, hown, hts⟩ (zc_X0_ownLeft l D cA a B mb (by omega)) (cwV 1 hts gX0_freeShares_X0_ownLeft rfl rfl rfl zy_X0_ownLeft ⟨Nat.le_of_ble_eq_true rfl, Nat.le_of_ble_eq_true rfl⟩) (z_preV (ci := 0) hK hP hD rfl rfl) rfl rfl hl.1 rfl (lv_room (Nat.le_of_ble_eq_true rfl)) dX0_freeShares_2 ⟨Nat.zero_le _, Nat.zero_le _⟩) rfl ?_
  refine lv_iconst (v := 0) hx hb dX0_freeShares_5 (by decide) ?_
  refine lv_aload_n hx hb dX0_freeShares_6 rfl (lv_at hl 0 rfl) ?_
  refine va_get (D := D) (ci := 0) (v := .ref (a 4)) (C := RX0) (T := TX0) (N := 16) hx hb hts hi0 hown hK hP 0 rfl rfl 3 (by decide) (hts (.fieldLink RX0 21 "PledgedLoans$Books" "rest" "[I") (List.mem_of_getElem? (i := 1) rfl)) (fun _ h9 => h9) rfl dX0_freeShares_7 ?_
  refine lv_iload_n hx hb dX0_freeShares_10 rfl (lv_at hl 1 rfl) ?_
  refine z_iald (j := mb) hx hb hK hP 4 0 rfl rfl dX0_freeShares_11 (by omega) (by decide) ?_
  refine lv_aload_n hx hb dX0_freeShares_12 rfl (lv_at hl 0 rfl) ?_
  refine lv_iload_n hx hb dX0_freeShares_13 rfl (lv_at hl 1 rfl) ?_
  refine z_E (va_runV (As := [.int (nI mb)]) (rest := [.int (B 3 mb), .int 0, .int (f_X0_ownLeft B mb)]) ⟨hx, hb, hml, hown, hts⟩ (zc_X0_pledgedFor l D cA a B mb (by omega)) (cwV 1 hts gX0_freeShares_X0_pledgedFor rfl rfl rfl zy_X0_pledgedFor ⟨Nat.le_of_ble_eq_true rfl, Nat.le_of_ble_eq_true rfl⟩) (z_preV (ci := 0) hK hP hD rfl rfl) rfl rfl hl.1 rfl (lv_room (Nat.le_of_ble_eq_true rfl)) dX0_freeShares_14 ⟨Nat.zero_le _, Nat.zero_le _⟩) rfl ?_
  refine lv_isub hx hb dX0_freeShares_17 ?_
  refine va_mmax hx hb (by rw [hml]; exact hl.1.symm) hown (hts (.methodLink RX0 91 Lib.Math.max.name) (List.mem_of_getElem? (i := 2) rfl)) (hts (.static Lib.Math.max.name) (List.mem_of_getElem? (i := 3) rfl)) (hts (.initialized "java/lang/Math") (List.mem_of_getElem? (i := 4) rfl)) (hts (.code Lib.Math.max.name Lib.Math.max.code 2 (some .int)) (List.mem_of_getElem? (i := 5) rfl)) (Nat.le_of_ble_eq_true rfl) (Nat.le_of_ble_eq_true rfl) (Nat.zero_le _) (Nat.zero_le _) dX0_freeShares_18 ?_
  refine z_top (y := zmax 0 ((B 3 mb) - (f_X0_pledgedFor B mb))) rfl ?_
  refine lv_isub hx hb dX0_freeShares_21 ?_
  exact z_iretE hx hb hr hlocks dX0_freeShares_22 (by rfl)

theorem zy_X0_property : yX0_property.cls = RX0 ∧ yX0_property.cls ≠ "java/lang/invoke/MethodHandle" ∧ yX0_property.cls ≠ "java/lang/invoke/VarHandle" ∧ (parseMethodDescriptor yX0_property.desc).map (fun d => d.parameters.length) = some 2 := by decide +kernel
def f_X0_property (B : BK) (mb : Nat) (wt : Int32) : Int32 :=
  if wt = 0 then
    B 0 mb
  else
  if wt = 1 then
    f_X0_pledgedBy B mb
  else
  if wt = 2 then
    f_X0_pledgedFor B mb
  else
  if wt = 3 then
    f_X0_cover B mb
  else
  if wt = 4 then
    f_X0_freeShares B mb
  else
  if wt = 5 then
    B 1 mb
  else
  if wt = 6 then
    B 3 mb
  else
  if wt = 7 then
    if (f_X0_hasLoan B mb) = 0 then
      (-1)
    else
      B 4 mb
  else
  if wt = 8 then
    if (f_X0_hasLoan B mb) = 0 then
      (-1)
    else
      B 5 mb
  else
    if (f_X0_hasLoan B mb) = 0 then
      (-1)
    else
      B 6 mb

set_option maxHeartbeats 4000000 in
set_option maxRecDepth 100000 in
theorem zc_X0_property (l : Launch) (D : va_G) (cA : Nat → ClassId) (a : Nat → Nat) (B : BK) (mb : Nat) (wt : Int32) (hmb : mb < 6) : Met l yX0_property wsX0_property (zrm 3 66) (zPc D cA [.ref (a 0), .int (nI mb), .int wt] (bkW (cA 0) a B)) (zE (some (.int (f_X0_property B mb wt)))) 0 0 (fun _ => False) := by
  refine Met.ofW (cc := cX0_property) (maxL := 3) (ret := (some .int)) (by decide) rfl ?_
  intro p e s m args below meth c s₁ Bd hml hv
  obtain ⟨rfl, hP, hK, hD0⟩ := hv
  have hx := Bd.exec
  have hb := Bd.bytes
  have hr := Bd.returns
  have hts := atoms_spec (ws := wsX0_property) Bd.pre
  have hown : s.vm.findClass RX0 = some m.cls := findClass_of_methodNamed Bd.named
  have hlocks := Bd.notSynchronized
  have hD := z_Dfr hD0
  have hS : va_S (zfr (bkW (cA 0) a B)) s.heap s.heap [] := va_S.rf
  have hi0 : ∀ w ∈ wsX00, w ∈ wsX0_property := fun w h => List.mem_cons_of_mem _ (List.mem_append_right _ h)
  have hl := lv_entry ([.ref (a 0), .int (nI mb), .int wt]) (n := 3) (Nat.le_of_ble_eq_true rfl)
  rw [lg_entry_eq]
  generalize (lg_sl ([.ref (a 0), .int (nI mb), .int wt]) ++ List.replicate (3 - (lg_sl ([.ref (a 0), .int (nI mb), .int wt])).length) Slot.unset).toArray = ls at hl ⊢
  have hl : lv_has ls 3 [(0, .ref (a 0)), (1, .int (nI mb)), (2, .int wt)] := hl
  refine lv_iload_n hx hb dX0_property_0 rfl (lv_at hl 2 rfl) ?_
  by_cases c_1 : wt = 0
  · refine lv_tableIn (off := 51) (tgt := 52) hx hb dX0_property_1 (by rw [c_1]; decide) (by rw [c_1]; decide) (by rw [c_1]; decide) (by decide) ?_
    refine lv_aload_n hx hb dX0_property_52 rfl (lv_at hl 0 rfl) ?_
    refine va_get (D := D) (ci := 0) (v := .ref (a 1)) (C := RX0) (T := TX0) (N := 16) hx hb hts hi0 hown hK hP 0 rfl rfl 0 (by decide) (hts (.fieldLink RX0 9 "PledgedLoans$Books" "shares" "[I") (List.mem_of_getElem? (i := 1) rfl)) (fun _ h9 => h9) rfl dX0_property_53 ?_
    refine lv_iload_n hx hb dX0_property_56 rfl (lv_at hl 1 rfl) ?_
    refine z_iald (j := mb) hx hb hK hP 1 0 rfl rfl dX0_property_57 (by omega) (by decide) ?_
    exact z_iretE hx hb hr hlocks dX0_property_58 (by simp only [f_X0_property, if_pos c_1])
  by_cases c_2 : wt = 1
  · refine lv_tableIn (off := 58) (tgt := 59) hx hb dX0_property_1 (by rw [c_2]; decide) (by rw [c_2]; decide) (by rw [c_2]; decide) (by decide) ?_
    refine lv_aload_n hx hb dX0_property_59 rfl (lv_at hl 0 rfl) ?_
    refine lv_iload_n hx hb dX0_property_60 rfl (lv_at hl 1 rfl) ?_
    refine z_E (va_runV (As := [.int (nI mb)]) (rest := []) ⟨hx, hb, hml, hown, hts⟩ (zc_X0_pledgedBy l D cA a B mb (by omega)) (cwV 1 hts gX0_property_X0_pledgedBy rfl rfl rfl zy_X0_pledgedBy ⟨Nat.le_of_ble_eq_true rfl, Nat.le_of_ble_eq_true rfl⟩) (z_preV (ci := 0) hK hP hD rfl rfl) rfl rfl hl.1 rfl (lv_room (Nat.le_of_ble_eq_true rfl)) dX0_property_61 ⟨Nat.zero_le _, Nat.zero_le _⟩) rfl ?_
    exact z_iretE hx hb hr hlocks dX0_property_64 (by simp only [f_X0_property, if_neg c_1, if_pos c_2])
  by_cases c_3 : wt = 2
  · refine lv_tableIn (off := 64) (tgt := 65) hx hb dX0_property_1 (by rw [c_3]; decide) (by rw [c_3]; decide) (by rw [c_3]; decide) (by decide) ?_
    refine lv_aload_n hx hb dX0_property_65 rfl (lv_at hl 0 rfl) ?_
    refine lv_iload_n hx hb dX0_property_66 rfl (lv_at hl 1 rfl) ?_
    refine z_E (va_runV (As := [.int (nI mb)]) (rest := []) ⟨hx, hb, hml, hown, hts⟩ (zc_X0_pledgedFor l D cA a B mb (by omega)) (cwV 1 hts gX0_property_X0_pledgedFor rfl rfl rfl zy_X0_pledgedFor ⟨Nat.le_of_ble_eq_true rfl, Nat.le_of_ble_eq_true rfl⟩) (z_preV (ci := 0) hK hP hD rfl rfl) rfl rfl hl.1 rfl (lv_room (Nat.le_of_ble_eq_true rfl)) dX0_property_67 ⟨Nat.zero_le _, Nat.zero_le _⟩) rfl ?_
    exact z_iretE hx hb hr hlocks dX0_property_70 (by simp only [f_X0_property, if_neg c_1, if_neg c_2, if_pos c_3])
  by_cases c_4 : wt = 3
  · refine lv_tableIn (off := 70) (tgt := 71) hx hb dX0_property_1 (by rw [c_4]; decide) (by rw [c_4]; decide) (by rw [c_4]; decide) (by decide) ?_
    refine lv_aload_n hx hb dX0_property_71 rfl (lv_at hl 0 rfl) ?_
    refine lv_iload_n hx hb dX0_property_72 rfl (lv_at hl 1 rfl) ?_
    refine z_E (va_runV (As := [.int (nI mb)]) (rest := []) ⟨hx, hb, hml, hown, hts⟩ (zc_X0_cover l D cA a B mb (by omega)) (cwV 1 hts gX0_property_X0_cover rfl rfl rfl zy_X0_cover ⟨Nat.le_of_ble_eq_true rfl, Nat.le_of_ble_eq_true rfl⟩) (z_preV (ci := 0) hK hP hD rfl rfl) rfl rfl hl.1 rfl (lv_room (Nat.le_of_ble_eq_true rfl)) dX0_property_73 ⟨Nat.zero_le _, Nat.zero_le _⟩) rfl ?_
    exact z_iretE hx hb hr hlocks dX0_property_76 (by simp only [f_X0_property, if_neg c_1, if_neg c_2, if_neg c_3, if_pos c_4])
  by_cases c_5 : wt = 4
  · refine lv_tableIn (off := 76) (tgt := 77) hx hb dX0_property_1 (by rw [c_5]; decide) (by rw [c_5]; decide) (by rw [c_5]; decide) (by decide) ?_
    refine lv_aload_n hx hb dX0_property_77 rfl (lv_at hl 0 rfl) ?_
    refine lv_iload_n hx hb dX0_property_78 rfl (lv_at hl 1 rfl) ?_
    refine z_E (va_runV (As := [.int (nI mb)]) (rest := []) ⟨hx, hb, hml, hown, hts⟩ (zc_X0_freeShares l D cA a B mb (by omega)) (cwV 1 hts gX0_property_X0_freeShares rfl rfl rfl zy_X0_freeShares ⟨Nat.le_of_ble_eq_true rfl, Nat.le_of_ble_eq_true rfl⟩) (z_preV (ci := 0) hK hP hD rfl rfl) rfl rfl hl.1 rfl (lv_room (Nat.le_of_ble_eq_true rfl)) dX0_property_79 ⟨Nat.zero_le _, Nat.zero_le _⟩) rfl ?_
    exact z_iretE hx hb hr hlocks dX0_property_82 (by simp only [f_X0_property, if_neg c_1, if_neg c_2, if_neg c_3, if_neg c_4, if_pos c_5])
  by_cases c_6 : wt = 5
  · refine lv_tableIn (off := 82) (tgt := 83) hx hb dX0_property_1 (by rw [c_6]; decide) (by rw [c_6]; decide) (by rw [c_6]; decide) (by decide) ?_
    refine lv_aload_n hx hb dX0_property_83 rfl (lv_at hl 0 rfl) ?_
    refine va_get (D := D) (ci := 0) (v := .ref (a 2)) (C := RX0) (T := TX0) (N := 16) hx hb hts hi0 hown hK hP 0 rfl rfl 1 (by decide) (hts (.fieldLink RX0 15 "PledgedLoans$Books" "shareDays" "[I") (List.mem_of_getElem? (i := 2) rfl)) (fun _ h9 => h9) rfl dX0_property_84 ?_
    refine lv_iload_n hx hb dX0_property_87 rfl (lv_at hl 1 rfl) ?_
    refine z_iald (j := mb) hx hb hK hP 2 0 rfl rfl dX0_property_88 (by omega) (by decide) ?_
    exact z_iretE hx hb hr hlocks dX0_property_89 (by simp only [f_X0_property, if_neg c_1, if_neg c_2, if_neg c_3, if_neg c_4, if_neg c_5, if_pos c_6])
  by_cases c_7 : wt = 6
  · refine lv_tableIn (off := 89) (tgt := 90) hx hb dX0_property_1 (by rw [c_7]; decide) (by rw [c_7]; decide) (by rw [c_7]; decide) (by decide) ?_
    refine lv_aload_n hx hb dX0_property_90 rfl (lv_at hl 0 rfl) ?_
    refine va_get (D := D) (ci := 0) (v := .ref (a 4)) (C := RX0) (T := TX0) (N := 16) hx hb hts hi0 hown hK hP 0 rfl rfl 3 (by decide) (hts (.fieldLink RX0 21 "PledgedLoans$Books" "rest" "[I") (List.mem_of_getElem? (i := 3) rfl)) (fun _ h9 => h9) rfl dX0_property_91 ?_
    refine lv_iload_n hx hb dX0_property_94 rfl (lv_at hl 1 rfl) ?_
    refine z_iald (j := mb) hx hb hK hP 4 0 rfl rfl dX0_property_95 (by omega) (by decide) ?_
    exact z_iretE hx hb hr hlocks dX0_property_96 (by simp only [f_X0_property, if_neg c_1, if_neg c_2, if_neg c_3, if_neg c_4, if_neg c_5, if_neg c_6, if_pos c_7])
  by_cases c_8 : wt = 7
  · refine lv_tableIn (off := 96) (tgt := 97) hx hb dX0_property_1 (by rw [c_8]; decide) (by rw [c_8]; decide) (by rw [c_8]; decide) (by decide) ?_
    refine lv_aload_n hx hb dX0_property_97 rfl (lv_at hl 0 rfl) ?_
    refine lv_iload_n hx hb dX0_property_98 rfl (lv_at hl 1 rfl) ?_
    refine z_E (va_runV (As := [.int (nI mb)]) (rest := []) ⟨hx, hb, hml, hown, hts⟩ (zc_X0_hasLoan l D cA a B mb (by omega)) (cwV 1 hts gX0_property_X0_hasLoan rfl rfl rfl zy_X0_hasLoan ⟨Nat.le_of_ble_eq_true rfl, Nat.le_of_ble_eq_true rfl⟩) (z_preV (ci := 0) hK hP hD rfl rfl) rfl rfl hl.1 rfl (lv_room (Nat.le_of_ble_eq_true rfl)) dX0_property_99 ⟨Nat.zero_le _, Nat.zero_le _⟩) rfl ?_
    refine lv_if_eq (tgt := 114) hx hb dX0_property_102 (by decide) (fun c_9 => ?_) (fun c_9 => ?_)
    · refine lv_iconst (v := (-1)) hx hb dX0_property_114 (by decide) ?_
      exact z_iretE hx hb hr hlocks dX0_property_115 (by simp only [f_X0_property, if_neg c_1, if_neg c_2, if_neg c_3, if_neg c_4, if_neg c_5, if_neg c_6, if_neg c_7, if_pos c_8, if_pos c_9])
    · refine lv_aload_n hx hb dX0_property_105 rfl (lv_at hl 0 rfl) ?_
      refine va_get (D := D) (ci := 0) (v := .ref (a 5)) (C := RX0) (T := TX0) (N := 16) hx hb hts hi0 hown hK hP 0 rfl rfl 4 (by decide) (hts (.fieldLink RX0 24 "PledgedLoans$Books" "part" "[I") (List.mem_of_getElem? (i := 4) rfl)) (fun _ h9 => h9) rfl dX0_property_106 ?_
      refine lv_iload_n hx hb dX0_property_109 rfl (lv_at hl 1 rfl) ?_
      refine z_iald (j := mb) hx hb hK hP 5 0 rfl rfl dX0_property_110 (by omega) (by decide) ?_
      refine lv_goto (tgt := 115) hx hb dX0_property_111 (by decide) ?_
      exact z_iretE hx hb hr hlocks dX0_property_115 (by simp only [f_X0_property, if_neg c_1, if_neg c_2, if_neg c_3, if_neg c_4, if_neg c_5, if_neg c_6, if_neg c_7, if_pos c_8, if_neg c_9])
  by_cases c_10 : wt = 8
  · refine lv_tableIn (off := 115) (tgt := 116) hx hb dX0_property_1 (by rw [c_10]; decide) (by rw [c_10]; decide) (by rw [c_10]; decide) (by decide) ?_
    refine lv_aload_n hx hb dX0_property_116 rfl (lv_at hl 0 rfl) ?_
    refine lv_iload_n hx hb dX0_property_117 rfl (lv_at hl 1 rfl) ?_
    refine z_E (va_runV (As := [.int (nI mb)]) (rest := []) ⟨hx, hb, hml, hown, hts⟩ (zc_X0_hasLoan l D cA a B mb (by omega)) (cwV 1 hts gX0_property_X0_hasLoan rfl rfl rfl zy_X0_hasLoan ⟨Nat.le_of_ble_eq_true rfl, Nat.le_of_ble_eq_true rfl⟩) (z_preV (ci := 0) hK hP hD rfl rfl) rfl rfl hl.1 rfl (lv_room (Nat.le_of_ble_eq_true rfl)) dX0_property_118 ⟨Nat.zero_le _, Nat.zero_le _⟩) rfl ?_
    refine lv_if_eq (tgt := 133) hx hb dX0_property_121 (by decide) (fun c_11 => ?_) (fun c_11 => ?_)
    · refine lv_iconst (v := (-1)) hx hb dX0_property_133 (by decide) ?_
      exact z_iretE hx hb hr hlocks dX0_property_134 (by simp only [f_X0_property, if_neg c_1, if_neg c_2, if_neg c_3, if_neg c_4, if_neg c_5, if_neg c_6, if_neg c_7, if_neg c_8, if_pos c_10, if_pos c_11])
    · refine lv_aload_n hx hb dX0_property_124 rfl (lv_at hl 0 rfl) ?_
      refine va_get (D := D) (ci := 0) (v := .ref (a 6)) (C := RX0) (T := TX0) (N := 16) hx hb hts hi0 hown hK hP 0 rfl rfl 5 (by decide) (hts (.fieldLink RX0 27 "PledgedLoans$Books" "paid" "[I") (List.mem_of_getElem? (i := 5) rfl)) (fun _ h9 => h9) rfl dX0_property_125 ?_
      refine lv_iload_n hx hb dX0_property_128 rfl (lv_at hl 1 rfl) ?_
      refine z_iald (j := mb) hx hb hK hP 6 0 rfl rfl dX0_property_129 (by omega) (by decide) ?_
      refine lv_goto (tgt := 134) hx hb dX0_property_130 (by decide) ?_
      exact z_iretE hx hb hr hlocks dX0_property_134 (by simp only [f_X0_property, if_neg c_1, if_neg c_2, if_neg c_3, if_neg c_4, if_neg c_5, if_neg c_6, if_neg c_7, if_neg c_8, if_pos c_10, if_neg c_11])
  have tc_1 : (wt).toInt ≠ 0 := fun h9 => c_1 (Int32.toInt_inj.mp (h9.trans (by decide)))
  have tc_2 : (wt).toInt ≠ 1 := fun h9 => c_2 (Int32.toInt_inj.mp (h9.trans (by decide)))
  have tc_3 : (wt).toInt ≠ 2 := fun h9 => c_3 (Int32.toInt_inj.mp (h9.trans (by decide)))
  have tc_4 : (wt).toInt ≠ 3 := fun h9 => c_4 (Int32.toInt_inj.mp (h9.trans (by decide)))
  have tc_5 : (wt).toInt ≠ 4 := fun h9 => c_5 (Int32.toInt_inj.mp (h9.trans (by decide)))
  have tc_6 : (wt).toInt ≠ 5 := fun h9 => c_6 (Int32.toInt_inj.mp (h9.trans (by decide)))
  have tc_7 : (wt).toInt ≠ 6 := fun h9 => c_7 (Int32.toInt_inj.mp (h9.trans (by decide)))
  have tc_8 : (wt).toInt ≠ 7 := fun h9 => c_8 (Int32.toInt_inj.mp (h9.trans (by decide)))
  have tc_10 : (wt).toInt ≠ 8 := fun h9 => c_10 (Int32.toInt_inj.mp (h9.trans (by decide)))
  refine lv_tableOut (tgt := 135) hx hb dX0_property_1 (by omega) (by decide) ?_
  refine lv_aload_n hx hb dX0_property_135 rfl (lv_at hl 0 rfl) ?_
  refine lv_iload_n hx hb dX0_property_136 rfl (lv_at hl 1 rfl) ?_
  refine z_E (va_runV (As := [.int (nI mb)]) (rest := []) ⟨hx, hb, hml, hown, hts⟩ (zc_X0_hasLoan l D cA a B mb (by omega)) (cwV 1 hts gX0_property_X0_hasLoan rfl rfl rfl zy_X0_hasLoan ⟨Nat.le_of_ble_eq_true rfl, Nat.le_of_ble_eq_true rfl⟩) (z_preV (ci := 0) hK hP hD rfl rfl) rfl rfl hl.1 rfl (lv_room (Nat.le_of_ble_eq_true rfl)) dX0_property_137 ⟨Nat.zero_le _, Nat.zero_le _⟩) rfl ?_
  refine lv_if_eq (tgt := 152) hx hb dX0_property_140 (by decide) (fun c_12 => ?_) (fun c_12 => ?_)
  · refine lv_iconst (v := (-1)) hx hb dX0_property_152 (by decide) ?_
    exact z_iretE hx hb hr hlocks dX0_property_153 (by simp only [f_X0_property, if_neg c_1, if_neg c_2, if_neg c_3, if_neg c_4, if_neg c_5, if_neg c_6, if_neg c_7, if_neg c_8, if_neg c_10, if_pos c_12])
  · refine lv_aload_n hx hb dX0_property_143 rfl (lv_at hl 0 rfl) ?_
    refine va_get (D := D) (ci := 0) (v := .ref (a 7)) (C := RX0) (T := TX0) (N := 16) hx hb hts hi0 hown hK hP 0 rfl rfl 6 (by decide) (hts (.fieldLink RX0 30 "PledgedLoans$Books" "misses" "[I") (List.mem_of_getElem? (i := 6) rfl)) (fun _ h9 => h9) rfl dX0_property_144 ?_
    refine lv_iload_n hx hb dX0_property_147 rfl (lv_at hl 1 rfl) ?_
    refine z_iald (j := mb) hx hb hK hP 7 0 rfl rfl dX0_property_148 (by omega) (by decide) ?_
    refine lv_goto (tgt := 153) hx hb dX0_property_149 (by decide) ?_
    exact z_iretE hx hb hr hlocks dX0_property_153 (by simp only [f_X0_property, if_neg c_1, if_neg c_2, if_neg c_3, if_neg c_4, if_neg c_5, if_neg c_6, if_neg c_7, if_neg c_8, if_neg c_10, if_neg c_12])

theorem zy_X0_takeIn : yX0_takeIn.cls = RX0 ∧ yX0_takeIn.cls ≠ "java/lang/invoke/MethodHandle" ∧ yX0_takeIn.cls ≠ "java/lang/invoke/VarHandle" ∧ (parseMethodDescriptor yX0_takeIn.desc).map (fun d => d.parameters.length) = some 2 := by decide +kernel
def f_X0_takeIn (B : BK) (mb : Nat) (am : Int32) : Int32 × BK :=
  if ((B 0 mb) + am) ≤ 90000 then
    let M_2 : BK := uB (uB B 0 mb ((B 0 mb) + am)) 8 0 (((uB B 0 mb ((B 0 mb) + am)) 8 0) + am)
    ((B 0 mb) + am, M_2)
  else
    ((-1), uB B 8 6 ((B 8 6) + 1))

set_option maxHeartbeats 4000000 in
set_option maxRecDepth 100000 in
theorem zc_X0_takeIn (l : Launch) (D : va_G) (cA : Nat → ClassId) (a : Nat → Nat) (B : BK) (mb : Nat) (am : Int32) (hmb : mb < 6) : Met l yX0_takeIn wsX0_takeIn (zrm 0 0) (zPc D cA [.ref (a 0), .int (nI mb), .int am] (bkW (cA 0) a B)) (zM D (bkW (cA 0) a B) (bkW (cA 0) a ((f_X0_takeIn B mb am).2)) (some (.int ((f_X0_takeIn B mb am).1)))) 0 0 (zfr (bkW (cA 0) a B)) := by
  refine Met.ofW (cc := cX0_takeIn) (maxL := 4) (ret := (some .int)) (by decide) rfl ?_
  intro p e s m args below meth c s₁ Bd hml hv
  obtain ⟨rfl, hP, hK, hD0⟩ := hv
  have hx := Bd.exec
  have hb := Bd.bytes
  have hr := Bd.returns
  have hts := atoms_spec (ws := wsX0_takeIn) Bd.pre
  have hown : s.vm.findClass RX0 = some m.cls := findClass_of_methodNamed Bd.named
  have hlocks := Bd.notSynchronized
  have hD := z_Dfr hD0
  have hS : va_S (zfr (bkW (cA 0) a B)) s.heap s.heap [] := va_S.rf
  have hi0 : ∀ w ∈ wsX00, w ∈ wsX0_takeIn := fun w h => List.mem_cons_of_mem _ (List.mem_append_right _ h)
  have hl := lv_entry ([.ref (a 0), .int (nI mb), .int am]) (n := 4) (Nat.le_of_ble_eq_true rfl)
  rw [lg_entry_eq]
  generalize (lg_sl ([.ref (a 0), .int (nI mb), .int am]) ++ List.replicate (4 - (lg_sl ([.ref (a 0), .int (nI mb), .int am])).length) Slot.unset).toArray = ls at hl ⊢
  have hl : lv_has ls 4 [(0, .ref (a 0)), (1, .int (nI mb)), (2, .int am)] := hl
  refine lv_aload_n hx hb dX0_takeIn_0 rfl (lv_at hl 0 rfl) ?_
  refine va_get (D := D) (ci := 0) (v := .ref (a 1)) (C := RX0) (T := TX0) (N := 16) hx hb hts hi0 hown hK hP 0 rfl rfl 0 (by decide) (hts (.fieldLink RX0 9 "PledgedLoans$Books" "shares" "[I") (List.mem_of_getElem? (i := 1) rfl)) (fun _ h9 => h9) rfl dX0_takeIn_1 ?_
  refine lv_iload_n hx hb dX0_takeIn_4 rfl (lv_at hl 1 rfl) ?_
  refine z_iald (j := mb) hx hb hK hP 1 0 rfl rfl dX0_takeIn_5 (by omega) (by decide) ?_
  refine lv_iload_n hx hb dX0_takeIn_6 rfl (lv_at hl 2 rfl) ?_
  refine lv_iadd hx hb dX0_takeIn_7 ?_
  refine lv_istore_n (lv' := [(3, .int ((B 0 mb) + am)), (0, .ref (a 0)), (1, .int (nI mb)), (2, .int am)]) hx hb dX0_takeIn_8 rfl hl (by decide) rfl (fun ls hl => ?_)
  refine lv_iload_n hx hb dX0_takeIn_9 rfl (lv_at hl 0 rfl) ?_
  refine lv_ldc hx hb hown (hts (.constant RX0 100 (90000)) (List.mem_of_getElem? (i := 2) rfl)) dX0_takeIn_10 ?_
  refine lv_icmp_le (tgt := 27) hx hb dX0_takeIn_12 (by decide) (fun c_1 => ?_) (fun c_1 => ?_)
  · refine lv_aload_n hx hb dX0_takeIn_27 rfl (lv_at hl 1 rfl) ?_
    refine va_get (D := D) (ci := 0) (v := .ref (a 1)) (C := RX0) (T := TX0) (N := 16) hx hb hts hi0 hown hK hP 0 rfl rfl 0 (by decide) (hts (.fieldLink RX0 9 "PledgedLoans$Books" "shares" "[I") (List.mem_of_getElem? (i := 1) rfl)) (fun _ h9 => h9) rfl dX0_takeIn_28 ?_
    refine lv_iload_n hx hb dX0_takeIn_31 rfl (lv_at hl 2 rfl) ?_
    refine lv_iload_n hx hb dX0_takeIn_32 rfl (lv_at hl 0 rfl) ?_
    refine z_iast (j := mb) hx hb hK hP hD hS 1 0 rfl rfl dX0_takeIn_33 (by omega) (by decide) (bkW (cA 0) a (uB B 0 mb ((B 0 mb) + am))) rfl (fun H locs hP hD hS => ?_)
    refine lv_aload_n hx hb dX0_takeIn_34 rfl (lv_at hl 1 rfl) ?_
    refine lv_dup hx hb dX0_takeIn_35 rfl ?_
    refine va_get (D := D) (ci := 0) (v := .int ((uB B 0 mb ((B 0 mb) + am)) 8 0)) (C := RX0) (T := TX0) (N := 16) hx hb hts hi0 hown hK hP 0 rfl rfl 8 (by decide) (hts (.fieldLink RX0 40 "PledgedLoans$Books" "till" "I") (List.mem_of_getElem? (i := 4) rfl)) (fun _ h9 => h9) rfl dX0_takeIn_36 ?_
    refine lv_iload_n hx hb dX0_takeIn_39 rfl (lv_at hl 3 rfl) ?_
    refine lv_iadd hx hb dX0_takeIn_40 ?_
    refine va_put (D := D) (ci := 0) (v := .int (((uB B 0 mb ((B 0 mb) + am)) 8 0) + am)) (ty := .int) (C := RX0) (T := TX0) (N := 16) hx hb hts hi0 tyX0 tyX0_ok nmX0 hown hK hP hD hS 0 rfl rfl 8 (by decide) (hts (.fieldLink RX0 40 "PledgedLoans$Books" "till" "I") (List.mem_of_getElem? (i := 4) rfl)) (fun _ h9 => h9) rfl (by decide +kernel) rfl rfl (Nat.le_of_ble_eq_true rfl) dX0_takeIn_41 (fun H locs hP hD hS => ?_)
    have hP : va_P D vwCl (bkW (cA 0) a (uB (uB B 0 mb ((B 0 mb) + am)) 8 0 (((uB B 0 mb ((B 0 mb) + am)) 8 0) + am))) H := hP
    have hD : va_D _ (bkW (cA 0) a (uB (uB B 0 mb ((B 0 mb) + am)) 8 0 (((uB B 0 mb ((B 0 mb) + am)) 8 0) + am))) := hD
    obtain ⟨M_2, eM_2⟩ : ∃ z9 : BK, z9 = uB (uB B 0 mb ((B 0 mb) + am)) 8 0 (((uB B 0 mb ((B 0 mb) + am)) 8 0) + am) := ⟨_, rfl⟩
    rw [← eM_2] at hP hD
    refine lv_iload_n hx hb dX0_takeIn_44 rfl (lv_at hl 0 rfl) ?_
    exact z_iretM (w1 := bkW (cA 0) a M_2) hx hb hr hlocks dX0_takeIn_45 hP hS (by subst eM_2; simp only [f_X0_takeIn, if_pos c_1]) (by subst eM_2; simp only [f_X0_takeIn, if_pos c_1])
  · refine lv_aload_n hx hb dX0_takeIn_15 rfl (lv_at hl 1 rfl) ?_
    refine lv_dup hx hb dX0_takeIn_16 rfl ?_
    refine va_get (D := D) (ci := 0) (v := .int (B 8 6)) (C := RX0) (T := TX0) (N := 16) hx hb hts hi0 hown hK hP 0 rfl rfl 14 (by decide) (hts (.fieldLink RX0 59 "PledgedLoans$Books" "refused" "I") (List.mem_of_getElem? (i := 3) rfl)) (fun _ h9 => h9) rfl dX0_takeIn_17 ?_
    refine lv_iconst (v := 1) hx hb dX0_takeIn_20 (by decide) ?_
    refine lv_iadd hx hb dX0_takeIn_21 ?_
    refine va_put (D := D) (ci := 0) (v := .int ((B 8 6) + 1)) (ty := .int) (C := RX0) (T := TX0) (N := 16) hx hb hts hi0 tyX0 tyX0_ok nmX0 hown hK hP hD hS 0 rfl rfl 14 (by decide) (hts (.fieldLink RX0 59 "PledgedLoans$Books" "refused" "I") (List.mem_of_getElem? (i := 3) rfl)) (fun _ h9 => h9) rfl (by decide +kernel) rfl rfl (Nat.le_of_ble_eq_true rfl) dX0_takeIn_22 (fun H locs hP hD hS => ?_)
    have hP : va_P D vwCl (bkW (cA 0) a (uB B 8 6 ((B 8 6) + 1))) H := hP
    have hD : va_D _ (bkW (cA 0) a (uB B 8 6 ((B 8 6) + 1))) := hD
    refine lv_iconst (v := (-1)) hx hb dX0_takeIn_25 (by decide) ?_
    exact z_iretM (w1 := bkW (cA 0) a (uB B 8 6 ((B 8 6) + 1))) hx hb hr hlocks dX0_takeIn_26 hP hS (by simp only [f_X0_takeIn, if_neg c_1]) (by simp only [f_X0_takeIn, if_neg c_1])

theorem zy_X0_giveOut : yX0_giveOut.cls = RX0 ∧ yX0_giveOut.cls ≠ "java/lang/invoke/MethodHandle" ∧ yX0_giveOut.cls ≠ "java/lang/invoke/VarHandle" ∧ (parseMethodDescriptor yX0_giveOut.desc).map (fun d => d.parameters.length) = some 2 := by decide +kernel
def f_X0_giveOut (B : BK) (mb : Nat) (am : Int32) : Int32 × BK :=
  if am ≤ (f_X0_freeShares B mb) then
    if am ≤ (B 8 0) then
      let M_3 : BK := uB (uB B 0 mb ((B 0 mb) - am)) 8 0 (((uB B 0 mb ((B 0 mb) - am)) 8 0) - am)
      (0, M_3)
    else
      (2, uB B 8 6 ((B 8 6) + 1))
  else
    (1, uB B 8 6 ((B 8 6) + 1))

set_option maxHeartbeats 4000000 in
set_option maxRecDepth 100000 in
theorem zc_X0_giveOut (l : Launch) (D : va_G) (cA : Nat → ClassId) (a : Nat → Nat) (B : BK) (mb : Nat) (am : Int32) (hmb : mb < 6) : Met l yX0_giveOut wsX0_giveOut (zrm 3 66) (zPc D cA [.ref (a 0), .int (nI mb), .int am] (bkW (cA 0) a B)) (zM D (bkW (cA 0) a B) (bkW (cA 0) a ((f_X0_giveOut B mb am).2)) (some (.int ((f_X0_giveOut B mb am).1)))) 0 0 (zfr (bkW (cA 0) a B)) := by
  refine Met.ofW (cc := cX0_giveOut) (maxL := 3) (ret := (some .int)) (by decide) rfl ?_
  intro p e s m args below meth c s₁ Bd hml hv
  obtain ⟨rfl, hP, hK, hD0⟩ := hv
  have hx := Bd.exec
  have hb := Bd.bytes
  have hr := Bd.returns
  have hts := atoms_spec (ws := wsX0_giveOut) Bd.pre
  have hown : s.vm.findClass RX0 = some m.cls := findClass_of_methodNamed Bd.named
  have hlocks := Bd.notSynchronized
  have hD := z_Dfr hD0
  have hS : va_S (zfr (bkW (cA 0) a B)) s.heap s.heap [] := va_S.rf
  have hi0 : ∀ w ∈ wsX00, w ∈ wsX0_giveOut := fun w h => List.mem_cons_of_mem _ (List.mem_append_right _ h)
  have hl := lv_entry ([.ref (a 0), .int (nI mb), .int am]) (n := 3) (Nat.le_of_ble_eq_true rfl)
  rw [lg_entry_eq]
  generalize (lg_sl ([.ref (a 0), .int (nI mb), .int am]) ++ List.replicate (3 - (lg_sl ([.ref (a 0), .int (nI mb), .int am])).length) Slot.unset).toArray = ls at hl ⊢
  have hl : lv_has ls 3 [(0, .ref (a 0)), (1, .int (nI mb)), (2, .int am)] := hl
  refine lv_iload_n hx hb dX0_giveOut_0 rfl (lv_at hl 2 rfl) ?_
  refine lv_aload_n hx hb dX0_giveOut_1 rfl (lv_at hl 0 rfl) ?_
  refine lv_iload_n hx hb dX0_giveOut_2 rfl (lv_at hl 1 rfl) ?_
  refine z_E (va_runV (As := [.int (nI mb)]) (rest := [.int am]) ⟨hx, hb, hml, hown, hts⟩ (zc_X0_freeShares l D cA a B mb (by omega)) (cwV 1 hts gX0_giveOut_X0_freeShares rfl rfl rfl zy_X0_freeShares ⟨Nat.le_of_ble_eq_true rfl, Nat.le_of_ble_eq_true rfl⟩) (z_preV (ci := 0) hK hP hD rfl rfl) rfl rfl hl.1 rfl (lv_room (Nat.le_of_ble_eq_true rfl)) dX0_giveOut_3 ⟨Nat.zero_le _, Nat.zero_le _⟩) rfl ?_
  refine lv_icmp_le (tgt := 21) hx hb dX0_giveOut_6 (by decide) (fun c_1 => ?_) (fun c_1 => ?_)
  · refine lv_iload_n hx hb dX0_giveOut_21 rfl (lv_at hl 2 rfl) ?_
    refine lv_aload_n hx hb dX0_giveOut_22 rfl (lv_at hl 0 rfl) ?_
    refine va_get (D := D) (ci := 0) (v := .int (B 8 0)) (C := RX0) (T := TX0) (N := 16) hx hb hts hi0 hown hK hP 0 rfl rfl 8 (by decide) (hts (.fieldLink RX0 40 "PledgedLoans$Books" "till" "I") (List.mem_of_getElem? (i := 2) rfl)) (fun _ h9 => h9) rfl dX0_giveOut_23 ?_
    refine lv_icmp_le (tgt := 41) hx hb dX0_giveOut_26 (by decide) (fun c_2 => ?_) (fun c_2 => ?_)
    · refine lv_aload_n hx hb dX0_giveOut_41 rfl (lv_at hl 0 rfl) ?_
      refine va_get (D := D) (ci := 0) (v := .ref (a 1)) (C := RX0) (T := TX0) (N := 16) hx hb hts hi0 hown hK hP 0 rfl rfl 0 (by decide) (hts (.fieldLink RX0 9 "PledgedLoans$Books" "shares" "[I") (List.mem_of_getElem? (i := 3) rfl)) (fun _ h9 => h9) rfl dX0_giveOut_42 ?_
      refine lv_iload_n hx hb dX0_giveOut_45 rfl (lv_at hl 1 rfl) ?_
      refine lv_dup2_11 hx hb dX0_giveOut_46 rfl rfl ?_
      refine z_iald (j := mb) hx hb hK hP 1 0 rfl rfl dX0_giveOut_47 (by omega) (by decide) ?_
      refine lv_iload_n hx hb dX0_giveOut_48 rfl (lv_at hl 2 rfl) ?_
      refine lv_isub hx hb dX0_giveOut_49 ?_
      refine z_iast (j := mb) hx hb hK hP hD hS 1 0 rfl rfl dX0_giveOut_50 (by omega) (by decide) (bkW (cA 0) a (uB B 0 mb ((B 0 mb) - am))) rfl (fun H locs hP hD hS => ?_)
      refine lv_aload_n hx hb dX0_giveOut_51 rfl (lv_at hl 0 rfl) ?_
      refine lv_dup hx hb dX0_giveOut_52 rfl ?_
      refine va_get (D := D) (ci := 0) (v := .int ((uB B 0 mb ((B 0 mb) - am)) 8 0)) (C := RX0) (T := TX0) (N := 16) hx hb hts hi0 hown hK hP 0 rfl rfl 8 (by decide) (hts (.fieldLink RX0 40 "PledgedLoans$Books" "till" "I") (List.mem_of_getElem? (i := 2) rfl)) (fun _ h9 => h9) rfl dX0_giveOut_53 ?_
      refine lv_iload_n hx hb dX0_giveOut_56 rfl (lv_at hl 2 rfl) ?_
      refine lv_isub hx hb dX0_giveOut_57 ?_
      refine va_put (D := D) (ci := 0) (v := .int (((uB B 0 mb ((B 0 mb) - am)) 8 0) - am)) (ty := .int) (C := RX0) (T := TX0) (N := 16) hx hb hts hi0 tyX0 tyX0_ok nmX0 hown hK hP hD hS 0 rfl rfl 8 (by decide) (hts (.fieldLink RX0 40 "PledgedLoans$Books" "till" "I") (List.mem_of_getElem? (i := 2) rfl)) (fun _ h9 => h9) rfl (by decide +kernel) rfl rfl (Nat.le_of_ble_eq_true rfl) dX0_giveOut_58 (fun H locs hP hD hS => ?_)
      have hP : va_P D vwCl (bkW (cA 0) a (uB (uB B 0 mb ((B 0 mb) - am)) 8 0 (((uB B 0 mb ((B 0 mb) - am)) 8 0) - am))) H := hP
      have hD : va_D _ (bkW (cA 0) a (uB (uB B 0 mb ((B 0 mb) - am)) 8 0 (((uB B 0 mb ((B 0 mb) - am)) 8 0) - am))) := hD
      obtain ⟨M_3, eM_3⟩ : ∃ z9 : BK, z9 = uB (uB B 0 mb ((B 0 mb) - am)) 8 0 (((uB B 0 mb ((B 0 mb) - am)) 8 0) - am) := ⟨_, rfl⟩
      rw [← eM_3] at hP hD
      refine lv_iconst (v := 0) hx hb dX0_giveOut_61 (by decide) ?_
      exact z_iretM (w1 := bkW (cA 0) a M_3) hx hb hr hlocks dX0_giveOut_62 hP hS (by subst eM_3; simp only [f_X0_giveOut, if_pos c_1, if_pos c_2]) (by subst eM_3; simp only [f_X0_giveOut, if_pos c_1, if_pos c_2])
    · refine lv_aload_n hx hb dX0_giveOut_29 rfl (lv_at hl 0 rfl) ?_
      refine lv_dup hx hb dX0_giveOut_30 rfl ?_
      refine va_get (D := D) (ci := 0) (v := .int (B 8 6)) (C := RX0) (T := TX0) (N := 16) hx hb hts hi0 hown hK hP 0 rfl rfl 14 (by decide) (hts (.fieldLink RX0 59 "PledgedLoans$Books" "refused" "I") (List.mem_of_getElem? (i := 1) rfl)) (fun _ h9 => h9) rfl dX0_giveOut_31 ?_
      refine lv_iconst (v := 1) hx hb dX0_giveOut_34 (by decide) ?_
      refine lv_iadd hx hb dX0_giveOut_35 ?_
      refine va_put (D := D) (ci := 0) (v := .int ((B 8 6) + 1)) (ty := .int) (C := RX0) (T := TX0) (N := 16) hx hb hts hi0 tyX0 tyX0_ok nmX0 hown hK hP hD hS 0 rfl rfl 14 (by decide) (hts (.fieldLink RX0 59 "PledgedLoans$Books" "refused" "I") (List.mem_of_getElem? (i := 1) rfl)) (fun _ h9 => h9) rfl (by decide +kernel) rfl rfl (Nat.le_of_ble_eq_true rfl) dX0_giveOut_36 (fun H locs hP hD hS => ?_)
      have hP : va_P D vwCl (bkW (cA 0) a (uB B 8 6 ((B 8 6) + 1))) H := hP
      have hD : va_D _ (bkW (cA 0) a (uB B 8 6 ((B 8 6) + 1))) := hD
      refine lv_iconst (v := 2) hx hb dX0_giveOut_39 (by decide) ?_
      exact z_iretM (w1 := bkW (cA 0) a (uB B 8 6 ((B 8 6) + 1))) hx hb hr hlocks dX0_giveOut_40 hP hS (by simp only [f_X0_giveOut, if_pos c_1, if_neg c_2]) (by simp only [f_X0_giveOut, if_pos c_1, if_neg c_2])
  · refine lv_aload_n hx hb dX0_giveOut_9 rfl (lv_at hl 0 rfl) ?_
    refine lv_dup hx hb dX0_giveOut_10 rfl ?_
    refine va_get (D := D) (ci := 0) (v := .int (B 8 6)) (C := RX0) (T := TX0) (N := 16) hx hb hts hi0 hown hK hP 0 rfl rfl 14 (by decide) (hts (.fieldLink RX0 59 "PledgedLoans$Books" "refused" "I") (List.mem_of_getElem? (i := 1) rfl)) (fun _ h9 => h9) rfl dX0_giveOut_11 ?_
    refine lv_iconst (v := 1) hx hb dX0_giveOut_14 (by decide) ?_
    refine lv_iadd hx hb dX0_giveOut_15 ?_
    refine va_put (D := D) (ci := 0) (v := .int ((B 8 6) + 1)) (ty := .int) (C := RX0) (T := TX0) (N := 16) hx hb hts hi0 tyX0 tyX0_ok nmX0 hown hK hP hD hS 0 rfl rfl 14 (by decide) (hts (.fieldLink RX0 59 "PledgedLoans$Books" "refused" "I") (List.mem_of_getElem? (i := 1) rfl)) (fun _ h9 => h9) rfl (by decide +kernel) rfl rfl (Nat.le_of_ble_eq_true rfl) dX0_giveOut_16 (fun H locs hP hD hS => ?_)
    have hP : va_P D vwCl (bkW (cA 0) a (uB B 8 6 ((B 8 6) + 1))) H := hP
    have hD : va_D _ (bkW (cA 0) a (uB B 8 6 ((B 8 6) + 1))) := hD
    refine lv_iconst (v := 1) hx hb dX0_giveOut_19 (by decide) ?_
    exact z_iretM (w1 := bkW (cA 0) a (uB B 8 6 ((B 8 6) + 1))) hx hb hr hlocks dX0_giveOut_20 hP hS (by simp only [f_X0_giveOut, if_neg c_1]) (by simp only [f_X0_giveOut, if_neg c_1])

theorem zy_X0_addPledge : yX0_addPledge.cls = RX0 ∧ yX0_addPledge.cls ≠ "java/lang/invoke/MethodHandle" ∧ yX0_addPledge.cls ≠ "java/lang/invoke/VarHandle" ∧ (parseMethodDescriptor yX0_addPledge.desc).map (fun d => d.parameters.length) = some 3 := by decide +kernel
def f_X0_addPledge (B : BK) (mb : Nat) (br : Nat) (am : Int32) : Int32 × BK :=
  if am ≤ (f_X0_freeShares B mb) then
    ((uB B 2 (mb * 6 + br) ((B 2 (mb * 6 + br)) + am)) 2 (mb * 6 + br), uB B 2 (mb * 6 + br) ((B 2 (mb * 6 + br)) + am))
  else
    ((-1), uB B 8 6 ((B 8 6) + 1))

set_option maxHeartbeats 4000000 in
set_option maxRecDepth 100000 in
theorem zc_X0_addPledge (l : Launch) (D : va_G) (cA : Nat → ClassId) (a : Nat → Nat) (B : BK) (mb : Nat) (br : Nat) (am : Int32) (hmb : mb < 6) (hbr : br < 6) : Met l yX0_addPledge wsX0_addPledge (zrm 3 66) (zPc D cA [.ref (a 0), .int (nI mb), .int (nI br), .int am] (bkW (cA 0) a B)) (zM D (bkW (cA 0) a B) (bkW (cA 0) a ((f_X0_addPledge B mb br am).2)) (some (.int ((f_X0_addPledge B mb br am).1)))) 0 0 (zfr (bkW (cA 0) a B)) := by
  refine Met.ofW (cc := cX0_addPledge) (maxL := 5) (ret := (some .int)) (by decide) rfl ?_
  intro p e s m args below meth c s₁ Bd hml hv
  obtain ⟨rfl, hP, hK, hD0⟩ := hv
  have hx := Bd.exec
  have hb := Bd.bytes
  have hr := Bd.returns
  have hts := atoms_spec (ws := wsX0_addPledge) Bd.pre
  have hown : s.vm.findClass RX0 = some m.cls := findClass_of_methodNamed Bd.named
  have hlocks := Bd.notSynchronized
  have hD := z_Dfr hD0
  have hS : va_S (zfr (bkW (cA 0) a B)) s.heap s.heap [] := va_S.rf
  have hi0 : ∀ w ∈ wsX00, w ∈ wsX0_addPledge := fun w h => List.mem_cons_of_mem _ (List.mem_append_right _ h)
  have hl := lv_entry ([.ref (a 0), .int (nI mb), .int (nI br), .int am]) (n := 5) (Nat.le_of_ble_eq_true rfl)
  rw [lg_entry_eq]
  generalize (lg_sl ([.ref (a 0), .int (nI mb), .int (nI br), .int am]) ++ List.replicate (5 - (lg_sl ([.ref (a 0), .int (nI mb), .int (nI br), .int am])).length) Slot.unset).toArray = ls at hl ⊢
  have hl : lv_has ls 5 [(0, .ref (a 0)), (1, .int (nI mb)), (2, .int (nI br)), (3, .int am)] := hl
  refine lv_iload_n hx hb dX0_addPledge_0 rfl (lv_at hl 3 rfl) ?_
  refine lv_aload_n hx hb dX0_addPledge_1 rfl (lv_at hl 0 rfl) ?_
  refine lv_iload_n hx hb dX0_addPledge_2 rfl (lv_at hl 1 rfl) ?_
  refine z_E (va_runV (As := [.int (nI mb)]) (rest := [.int am]) ⟨hx, hb, hml, hown, hts⟩ (zc_X0_freeShares l D cA a B mb (by omega)) (cwV 1 hts gX0_addPledge_X0_freeShares rfl rfl rfl zy_X0_freeShares ⟨Nat.le_of_ble_eq_true rfl, Nat.le_of_ble_eq_true rfl⟩) (z_preV (ci := 0) hK hP hD rfl rfl) rfl rfl hl.1 rfl (lv_room (Nat.le_of_ble_eq_true rfl)) dX0_addPledge_3 ⟨Nat.zero_le _, Nat.zero_le _⟩) rfl ?_
  refine lv_icmp_le (tgt := 21) hx hb dX0_addPledge_6 (by decide) (fun c_1 => ?_) (fun c_1 => ?_)
  · refine lv_iload_n hx hb dX0_addPledge_21 rfl (lv_at hl 1 rfl) ?_
    refine lv_iload_n hx hb dX0_addPledge_22 rfl (lv_at hl 2 rfl) ?_
    refine z_E (va_runS (As := [.int (nI mb), .int (nI br)]) (rest := []) ⟨hx, hb, hml, hown, hts⟩ (zc_X0_place l D cA mb br (by omega) (by omega)) (va_cwS 2 hts gX0_addPledge_X0_place rfl rfl rfl zy_X0_place.2 ⟨Nat.le_of_ble_eq_true rfl, Nat.le_of_ble_eq_true rfl⟩) (z_preS hK z_P0 (z_D0 (A := fun _ => True))) rfl rfl hl.1 rfl (lv_room (Nat.le_of_ble_eq_true rfl)) dX0_addPledge_23 ⟨Nat.zero_le _, Nat.zero_le _⟩) rfl ?_
    refine z_top (y := nI (mb * 6 + br)) rfl ?_
    refine lv_istore (lv' := [(4, .int (nI (mb * 6 + br))), (0, .ref (a 0)), (1, .int (nI mb)), (2, .int (nI br)), (3, .int am)]) hx hb dX0_addPledge_26 hl (by decide) rfl (fun ls hl => ?_)
    refine lv_aload_n hx hb dX0_addPledge_28 rfl (lv_at hl 1 rfl) ?_
    refine va_get (D := D) (ci := 0) (v := .ref (a 3)) (C := RX0) (T := TX0) (N := 16) hx hb hts hi0 hown hK hP 0 rfl rfl 2 (by decide) (hts (.fieldLink RX0 18 "PledgedLoans$Books" "pledges" "[I") (List.mem_of_getElem? (i := 2) rfl)) (fun _ h9 => h9) rfl dX0_addPledge_29 ?_
    refine lv_iload hx hb dX0_addPledge_32 (lv_at hl 0 rfl) ?_
    refine lv_dup2_11 hx hb dX0_addPledge_34 rfl rfl ?_
    refine z_iald (j := mb * 6 + br) hx hb hK hP 3 0 rfl rfl dX0_addPledge_35 (by omega) (by decide) ?_
    refine lv_iload_n hx hb dX0_addPledge_36 rfl (lv_at hl 4 rfl) ?_
    refine lv_iadd hx hb dX0_addPledge_37 ?_
    refine z_iast (j := mb * 6 + br) hx hb hK hP hD hS 3 0 rfl rfl dX0_addPledge_38 (by omega) (by decide) (bkW (cA 0) a (uB B 2 (mb * 6 + br) ((B 2 (mb * 6 + br)) + am))) rfl (fun H locs hP hD hS => ?_)
    refine lv_aload_n hx hb dX0_addPledge_39 rfl (lv_at hl 1 rfl) ?_
    refine va_get (D := D) (ci := 0) (v := .ref (a 3)) (C := RX0) (T := TX0) (N := 16) hx hb hts hi0 hown hK hP 0 rfl rfl 2 (by decide) (hts (.fieldLink RX0 18 "PledgedLoans$Books" "pledges" "[I") (List.mem_of_getElem? (i := 2) rfl)) (fun _ h9 => h9) rfl dX0_addPledge_40 ?_
    refine lv_iload hx hb dX0_addPledge_43 (lv_at hl 0 rfl) ?_
    refine z_iald (j := mb * 6 + br) hx hb hK hP 3 0 rfl rfl dX0_addPledge_45 (by omega) (by decide) ?_
    exact z_iretM (w1 := bkW (cA 0) a (uB B 2 (mb * 6 + br) ((B 2 (mb * 6 + br)) + am))) hx hb hr hlocks dX0_addPledge_46 hP hS (by simp only [f_X0_addPledge, if_pos c_1]) (by simp only [f_X0_addPledge, if_pos c_1])
  · refine lv_aload_n hx hb dX0_addPledge_9 rfl (lv_at hl 0 rfl) ?_
    refine lv_dup hx hb dX0_addPledge_10 rfl ?_
    refine va_get (D := D) (ci := 0) (v := .int (B 8 6)) (C := RX0) (T := TX0) (N := 16) hx hb hts hi0 hown hK hP 0 rfl rfl 14 (by decide) (hts (.fieldLink RX0 59 "PledgedLoans$Books" "refused" "I") (List.mem_of_getElem? (i := 1) rfl)) (fun _ h9 => h9) rfl dX0_addPledge_11 ?_
    refine lv_iconst (v := 1) hx hb dX0_addPledge_14 (by decide) ?_
    refine lv_iadd hx hb dX0_addPledge_15 ?_
    refine va_put (D := D) (ci := 0) (v := .int ((B 8 6) + 1)) (ty := .int) (C := RX0) (T := TX0) (N := 16) hx hb hts hi0 tyX0 tyX0_ok nmX0 hown hK hP hD hS 0 rfl rfl 14 (by decide) (hts (.fieldLink RX0 59 "PledgedLoans$Books" "refused" "I") (List.mem_of_getElem? (i := 1) rfl)) (fun _ h9 => h9) rfl (by decide +kernel) rfl rfl (Nat.le_of_ble_eq_true rfl) dX0_addPledge_16 (fun H locs hP hD hS => ?_)
    have hP : va_P D vwCl (bkW (cA 0) a (uB B 8 6 ((B 8 6) + 1))) H := hP
    have hD : va_D _ (bkW (cA 0) a (uB B 8 6 ((B 8 6) + 1))) := hD
    refine lv_iconst (v := (-1)) hx hb dX0_addPledge_19 (by decide) ?_
    exact z_iretM (w1 := bkW (cA 0) a (uB B 8 6 ((B 8 6) + 1))) hx hb hr hlocks dX0_addPledge_20 hP hS (by simp only [f_X0_addPledge, if_neg c_1]) (by simp only [f_X0_addPledge, if_neg c_1])

theorem zy_X0_dropPledge : yX0_dropPledge.cls = RX0 ∧ yX0_dropPledge.cls ≠ "java/lang/invoke/MethodHandle" ∧ yX0_dropPledge.cls ≠ "java/lang/invoke/VarHandle" ∧ (parseMethodDescriptor yX0_dropPledge.desc).map (fun d => d.parameters.length) = some 3 := by decide +kernel
def f_X0_dropPledge (B : BK) (mb : Nat) (br : Nat) (am : Int32) : Int32 × BK :=
  if am ≤ (B 2 (mb * 6 + br)) then
    if (B 3 br) ≤ ((f_X0_cover B br) - am) then
      (0, uB B 2 (mb * 6 + br) ((B 2 (mb * 6 + br)) - am))
    else
      (2, uB B 8 6 ((B 8 6) + 1))
  else
    (1, uB B 8 6 ((B 8 6) + 1))

set_option maxHeartbeats 4000000 in
set_option maxRecDepth 100000 in
theorem zc_X0_dropPledge (l : Launch) (D : va_G) (cA : Nat → ClassId) (a : Nat → Nat) (B : BK) (mb : Nat) (br : Nat) (am : Int32) (hmb : mb < 6) (hbr : br < 6) : Met l yX0_dropPledge wsX0_dropPledge (zrm 3 66) (zPc D cA [.ref (a 0), .int (nI mb), .int (nI br), .int am] (bkW (cA 0) a B)) (zM D (bkW (cA 0) a B) (bkW (cA 0) a ((f_X0_dropPledge B mb br am).2)) (some (.int ((f_X0_dropPledge B mb br am).1)))) 0 0 (zfr (bkW (cA 0) a B)) := by
  refine Met.ofW (cc := cX0_dropPledge) (maxL := 5) (ret := (some .int)) (by decide) rfl ?_
  intro p e s m args below meth c s₁ Bd hml hv
  obtain ⟨rfl, hP, hK, hD0⟩ := hv
  have hx := Bd.exec
  have hb := Bd.bytes
  have hr := Bd.returns
  have hts := atoms_spec (ws := wsX0_dropPledge) Bd.pre
  have hown : s.vm.findClass RX0 = some m.cls := findClass_of_methodNamed Bd.named
  have hlocks := Bd.notSynchronized
  have hD := z_Dfr hD0
  have hS : va_S (zfr (bkW (cA 0) a B)) s.heap s.heap [] := va_S.rf
  have hi0 : ∀ w ∈ wsX00, w ∈ wsX0_dropPledge := fun w h => List.mem_cons_of_mem _ (List.mem_append_right _ h)
  have hl := lv_entry ([.ref (a 0), .int (nI mb), .int (nI br), .int am]) (n := 5) (Nat.le_of_ble_eq_true rfl)
  rw [lg_entry_eq]
  generalize (lg_sl ([.ref (a 0), .int (nI mb), .int (nI br), .int am]) ++ List.replicate (5 - (lg_sl ([.ref (a 0), .int (nI mb), .int (nI br), .int am])).length) Slot.unset).toArray = ls at hl ⊢
  have hl : lv_has ls 5 [(0, .ref (a 0)), (1, .int (nI mb)), (2, .int (nI br)), (3, .int am)] := hl
  refine lv_iload_n hx hb dX0_dropPledge_0 rfl (lv_at hl 1 rfl) ?_
  refine lv_iload_n hx hb dX0_dropPledge_1 rfl (lv_at hl 2 rfl) ?_
  refine z_E (va_runS (As := [.int (nI mb), .int (nI br)]) (rest := []) ⟨hx, hb, hml, hown, hts⟩ (zc_X0_place l D cA mb br (by omega) (by omega)) (va_cwS 2 hts gX0_dropPledge_X0_place rfl rfl rfl zy_X0_place.2 ⟨Nat.le_of_ble_eq_true rfl, Nat.le_of_ble_eq_true rfl⟩) (z_preS hK z_P0 (z_D0 (A := fun _ => True))) rfl rfl hl.1 rfl (lv_room (Nat.le_of_ble_eq_true rfl)) dX0_dropPledge_2 ⟨Nat.zero_le _, Nat.zero_le _⟩) rfl ?_
  refine z_top (y := nI (mb * 6 + br)) rfl ?_
  refine lv_istore (lv' := [(4, .int (nI (mb * 6 + br))), (0, .ref (a 0)), (1, .int (nI mb)), (2, .int (nI br)), (3, .int am)]) hx hb dX0_dropPledge_5 hl (by decide) rfl (fun ls hl => ?_)
  refine lv_iload_n hx hb dX0_dropPledge_7 rfl (lv_at hl 4 rfl) ?_
  refine lv_aload_n hx hb dX0_dropPledge_8 rfl (lv_at hl 1 rfl) ?_
  refine va_get (D := D) (ci := 0) (v := .ref (a 3)) (C := RX0) (T := TX0) (N := 16) hx hb hts hi0 hown hK hP 0 rfl rfl 2 (by decide) (hts (.fieldLink RX0 18 "PledgedLoans$Books" "pledges" "[I") (List.mem_of_getElem? (i := 1) rfl)) (fun _ h9 => h9) rfl dX0_dropPledge_9 ?_
  refine lv_iload hx hb dX0_dropPledge_12 (lv_at hl 0 rfl) ?_
  refine z_iald (j := mb * 6 + br) hx hb hK hP 3 0 rfl rfl dX0_dropPledge_14 (by omega) (by decide) ?_
  refine lv_icmp_le (tgt := 30) hx hb dX0_dropPledge_15 (by decide) (fun c_1 => ?_) (fun c_1 => ?_)
  · refine lv_aload_n hx hb dX0_dropPledge_30 rfl (lv_at hl 1 rfl) ?_
    refine lv_iload_n hx hb dX0_dropPledge_31 rfl (lv_at hl 3 rfl) ?_
    refine z_E (va_runV (As := [.int (nI br)]) (rest := []) ⟨hx, hb, hml, hown, hts⟩ (zc_X0_cover l D cA a B br (by omega)) (cwV 1 hts gX0_dropPledge_X0_cover rfl rfl rfl zy_X0_cover ⟨Nat.le_of_ble_eq_true rfl, Nat.le_of_ble_eq_true rfl⟩) (z_preV (ci := 0) hK hP hD rfl rfl) rfl rfl hl.1 rfl (lv_room (Nat.le_of_ble_eq_true rfl)) dX0_dropPledge_32 ⟨Nat.zero_le _, Nat.zero_le _⟩) rfl ?_
    refine lv_iload_n hx hb dX0_dropPledge_35 rfl (lv_at hl 4 rfl) ?_
    refine lv_isub hx hb dX0_dropPledge_36 ?_
    refine lv_aload_n hx hb dX0_dropPledge_37 rfl (lv_at hl 1 rfl) ?_
    refine va_get (D := D) (ci := 0) (v := .ref (a 4)) (C := RX0) (T := TX0) (N := 16) hx hb hts hi0 hown hK hP 0 rfl rfl 3 (by decide) (hts (.fieldLink RX0 21 "PledgedLoans$Books" "rest" "[I") (List.mem_of_getElem? (i := 3) rfl)) (fun _ h9 => h9) rfl dX0_dropPledge_38 ?_
    refine lv_iload_n hx hb dX0_dropPledge_41 rfl (lv_at hl 3 rfl) ?_
    refine z_iald (j := br) hx hb hK hP 4 0 rfl rfl dX0_dropPledge_42 (by omega) (by decide) ?_
    refine lv_icmp_ge (tgt := 58) hx hb dX0_dropPledge_43 (by decide) (fun c_2 => ?_) (fun c_2 => ?_)
    · refine lv_aload_n hx hb dX0_dropPledge_58 rfl (lv_at hl 1 rfl) ?_
      refine va_get (D := D) (ci := 0) (v := .ref (a 3)) (C := RX0) (T := TX0) (N := 16) hx hb hts hi0 hown hK hP 0 rfl rfl 2 (by decide) (hts (.fieldLink RX0 18 "PledgedLoans$Books" "pledges" "[I") (List.mem_of_getElem? (i := 1) rfl)) (fun _ h9 => h9) rfl dX0_dropPledge_59 ?_
      refine lv_iload hx hb dX0_dropPledge_62 (lv_at hl 0 rfl) ?_
      refine lv_dup2_11 hx hb dX0_dropPledge_64 rfl rfl ?_
      refine z_iald (j := mb * 6 + br) hx hb hK hP 3 0 rfl rfl dX0_dropPledge_65 (by omega) (by decide) ?_
      refine lv_iload_n hx hb dX0_dropPledge_66 rfl (lv_at hl 4 rfl) ?_
      refine lv_isub hx hb dX0_dropPledge_67 ?_
      refine z_iast (j := mb * 6 + br) hx hb hK hP hD hS 3 0 rfl rfl dX0_dropPledge_68 (by omega) (by decide) (bkW (cA 0) a (uB B 2 (mb * 6 + br) ((B 2 (mb * 6 + br)) - am))) rfl (fun H locs hP hD hS => ?_)
      refine lv_iconst (v := 0) hx hb dX0_dropPledge_69 (by decide) ?_
      exact z_iretM (w1 := bkW (cA 0) a (uB B 2 (mb * 6 + br) ((B 2 (mb * 6 + br)) - am))) hx hb hr hlocks dX0_dropPledge_70 hP hS (by simp only [f_X0_dropPledge, if_pos c_1, if_pos c_2]) (by simp only [f_X0_dropPledge, if_pos c_1, if_pos c_2])
    · refine lv_aload_n hx hb dX0_dropPledge_46 rfl (lv_at hl 1 rfl) ?_
      refine lv_dup hx hb dX0_dropPledge_47 rfl ?_
      refine va_get (D := D) (ci := 0) (v := .int (B 8 6)) (C := RX0) (T := TX0) (N := 16) hx hb hts hi0 hown hK hP 0 rfl rfl 14 (by decide) (hts (.fieldLink RX0 59 "PledgedLoans$Books" "refused" "I") (List.mem_of_getElem? (i := 2) rfl)) (fun _ h9 => h9) rfl dX0_dropPledge_48 ?_
      refine lv_iconst (v := 1) hx hb dX0_dropPledge_51 (by decide) ?_
      refine lv_iadd hx hb dX0_dropPledge_52 ?_
      refine va_put (D := D) (ci := 0) (v := .int ((B 8 6) + 1)) (ty := .int) (C := RX0) (T := TX0) (N := 16) hx hb hts hi0 tyX0 tyX0_ok nmX0 hown hK hP hD hS 0 rfl rfl 14 (by decide) (hts (.fieldLink RX0 59 "PledgedLoans$Books" "refused" "I") (List.mem_of_getElem? (i := 2) rfl)) (fun _ h9 => h9) rfl (by decide +kernel) rfl rfl (Nat.le_of_ble_eq_true rfl) dX0_dropPledge_53 (fun H locs hP hD hS => ?_)
      have hP : va_P D vwCl (bkW (cA 0) a (uB B 8 6 ((B 8 6) + 1))) H := hP
      have hD : va_D _ (bkW (cA 0) a (uB B 8 6 ((B 8 6) + 1))) := hD
      refine lv_iconst (v := 2) hx hb dX0_dropPledge_56 (by decide) ?_
      exact z_iretM (w1 := bkW (cA 0) a (uB B 8 6 ((B 8 6) + 1))) hx hb hr hlocks dX0_dropPledge_57 hP hS (by simp only [f_X0_dropPledge, if_pos c_1, if_neg c_2]) (by simp only [f_X0_dropPledge, if_pos c_1, if_neg c_2])
  · refine lv_aload_n hx hb dX0_dropPledge_18 rfl (lv_at hl 1 rfl) ?_
    refine lv_dup hx hb dX0_dropPledge_19 rfl ?_
    refine va_get (D := D) (ci := 0) (v := .int (B 8 6)) (C := RX0) (T := TX0) (N := 16) hx hb hts hi0 hown hK hP 0 rfl rfl 14 (by decide) (hts (.fieldLink RX0 59 "PledgedLoans$Books" "refused" "I") (List.mem_of_getElem? (i := 2) rfl)) (fun _ h9 => h9) rfl dX0_dropPledge_20 ?_
    refine lv_iconst (v := 1) hx hb dX0_dropPledge_23 (by decide) ?_
    refine lv_iadd hx hb dX0_dropPledge_24 ?_
    refine va_put (D := D) (ci := 0) (v := .int ((B 8 6) + 1)) (ty := .int) (C := RX0) (T := TX0) (N := 16) hx hb hts hi0 tyX0 tyX0_ok nmX0 hown hK hP hD hS 0 rfl rfl 14 (by decide) (hts (.fieldLink RX0 59 "PledgedLoans$Books" "refused" "I") (List.mem_of_getElem? (i := 2) rfl)) (fun _ h9 => h9) rfl (by decide +kernel) rfl rfl (Nat.le_of_ble_eq_true rfl) dX0_dropPledge_25 (fun H locs hP hD hS => ?_)
    have hP : va_P D vwCl (bkW (cA 0) a (uB B 8 6 ((B 8 6) + 1))) H := hP
    have hD : va_D _ (bkW (cA 0) a (uB B 8 6 ((B 8 6) + 1))) := hD
    refine lv_iconst (v := 1) hx hb dX0_dropPledge_28 (by decide) ?_
    exact z_iretM (w1 := bkW (cA 0) a (uB B 8 6 ((B 8 6) + 1))) hx hb hr hlocks dX0_dropPledge_29 hP hS (by simp only [f_X0_dropPledge, if_neg c_1]) (by simp only [f_X0_dropPledge, if_neg c_1])

theorem zy_X0_feeOf : yX0_feeOf.cls = RX0 ∧ yX0_feeOf.cls ≠ "java/lang/invoke/MethodHandle" ∧ yX0_feeOf.cls ≠ "java/lang/invoke/VarHandle" ∧ (parseMethodDescriptor yX0_feeOf.desc).map (fun d => d.parameters.length) = some 1 := by decide +kernel
def f_X0_feeOf (B : BK) (am : Int32) : Int32 :=
  (am * (B 7 0)) / 1000

set_option maxHeartbeats 4000000 in
set_option maxRecDepth 100000 in
theorem zc_X0_feeOf (l : Launch) (D : va_G) (cA : Nat → ClassId) (a : Nat → Nat) (B : BK) (am : Int32)  : Met l yX0_feeOf wsX0_feeOf (zrm 0 0) (zPc D cA [.ref (a 0), .int am] (bkW (cA 0) a B)) (zE (some (.int (f_X0_feeOf B am)))) 0 0 (fun _ => False) := by
  refine Met.ofW (cc := cX0_feeOf) (maxL := 2) (ret := (some .int)) (by decide) rfl ?_
  intro p e s m args below meth c s₁ Bd hml hv
  obtain ⟨rfl, hP, hK, hD0⟩ := hv
  have hx := Bd.exec
  have hb := Bd.bytes
  have hr := Bd.returns
  have hts := atoms_spec (ws := wsX0_feeOf) Bd.pre
  have hown : s.vm.findClass RX0 = some m.cls := findClass_of_methodNamed Bd.named
  have hlocks := Bd.notSynchronized
  have hD := z_Dfr hD0
  have hS : va_S (zfr (bkW (cA 0) a B)) s.heap s.heap [] := va_S.rf
  have hi0 : ∀ w ∈ wsX00, w ∈ wsX0_feeOf := fun w h => List.mem_cons_of_mem _ (List.mem_append_right _ h)
  have hl := lv_entry ([.ref (a 0), .int am]) (n := 2) (Nat.le_of_ble_eq_true rfl)
  rw [lg_entry_eq]
  generalize (lg_sl ([.ref (a 0), .int am]) ++ List.replicate (2 - (lg_sl ([.ref (a 0), .int am])).length) Slot.unset).toArray = ls at hl ⊢
  have hl : lv_has ls 2 [(0, .ref (a 0)), (1, .int am)] := hl
  refine lv_iload_n hx hb dX0_feeOf_0 rfl (lv_at hl 1 rfl) ?_
  refine lv_aload_n hx hb dX0_feeOf_1 rfl (lv_at hl 0 rfl) ?_
  refine va_get (D := D) (ci := 0) (v := .ref (a 8)) (C := RX0) (T := TX0) (N := 16) hx hb hts hi0 hown hK hP 0 rfl rfl 7 (by decide) (hts (.fieldLink RX0 33 "PledgedLoans$Books" "settings" "[I") (List.mem_of_getElem? (i := 1) rfl)) (fun _ h9 => h9) rfl dX0_feeOf_2 ?_
  refine lv_iconst (v := 0) hx hb dX0_feeOf_5 (by decide) ?_
  refine z_iald (j := 0) hx hb hK hP 8 0 rfl rfl dX0_feeOf_6 (by omega) (by decide) ?_
  refine lv_imul hx hb dX0_feeOf_7 ?_
  refine lv_sipush (v := 1000) hx hb dX0_feeOf_8 (by decide) ?_
  refine lv_idiv hx hb dX0_feeOf_11 (by decide) ?_
  exact z_iretE hx hb hr hlocks dX0_feeOf_12 (by rfl)

theorem zy_X0_threefold : yX0_threefold.cls = RX0 ∧ yX0_threefold.cls ≠ "java/lang/invoke/MethodHandle" ∧ yX0_threefold.cls ≠ "java/lang/invoke/VarHandle" ∧ (parseMethodDescriptor yX0_threefold.desc).map (fun d => d.parameters.length) = some 1 := by decide +kernel
def f_X0_threefold (B : BK) (mb : Nat) : Int32 :=
  3 * (B 0 mb)

set_option maxHeartbeats 4000000 in
set_option maxRecDepth 100000 in
theorem zc_X0_threefold (l : Launch) (D : va_G) (cA : Nat → ClassId) (a : Nat → Nat) (B : BK) (mb : Nat) (hmb : mb < 6) : Met l yX0_threefold wsX0_threefold (zrm 0 0) (zPc D cA [.ref (a 0), .int (nI mb)] (bkW (cA 0) a B)) (zE (some (.int (f_X0_threefold B mb)))) 0 0 (fun _ => False) := by
  refine Met.ofW (cc := cX0_threefold) (maxL := 2) (ret := (some .int)) (by decide) rfl ?_
  intro p e s m args below meth c s₁ Bd hml hv
  obtain ⟨rfl, hP, hK, hD0⟩ := hv
  have hx := Bd.exec
  have hb := Bd.bytes
  have hr := Bd.returns
  have hts := atoms_spec (ws := wsX0_threefold) Bd.pre
  have hown : s.vm.findClass RX0 = some m.cls := findClass_of_methodNamed Bd.named
  have hlocks := Bd.notSynchronized
  have hD := z_Dfr hD0
  have hS : va_S (zfr (bkW (cA 0) a B)) s.heap s.heap [] := va_S.rf
  have hi0 : ∀ w ∈ wsX00, w ∈ wsX0_threefold := fun w h => List.mem_cons_of_mem _ (List.mem_append_right _ h)
  have hl := lv_entry ([.ref (a 0), .int (nI mb)]) (n := 2) (Nat.le_of_ble_eq_true rfl)
  rw [lg_entry_eq]
  generalize (lg_sl ([.ref (a 0), .int (nI mb)]) ++ List.replicate (2 - (lg_sl ([.ref (a 0), .int (nI mb)])).length) Slot.unset).toArray = ls at hl ⊢
  have hl : lv_has ls 2 [(0, .ref (a 0)), (1, .int (nI mb))] := hl
  refine lv_iconst (v := 3) hx hb dX0_threefold_0 (by decide) ?_
  refine lv_aload_n hx hb dX0_threefold_1 rfl (lv_at hl 0 rfl) ?_
  refine va_get (D := D) (ci := 0) (v := .ref (a 1)) (C := RX0) (T := TX0) (N := 16) hx hb hts hi0 hown hK hP 0 rfl rfl 0 (by decide) (hts (.fieldLink RX0 9 "PledgedLoans$Books" "shares" "[I") (List.mem_of_getElem? (i := 1) rfl)) (fun _ h9 => h9) rfl dX0_threefold_2 ?_
  refine lv_iload_n hx hb dX0_threefold_5 rfl (lv_at hl 1 rfl) ?_
  refine z_iald (j := mb) hx hb hK hP 1 0 rfl rfl dX0_threefold_6 (by omega) (by decide) ?_
  refine lv_imul hx hb dX0_threefold_7 ?_
  exact z_iretE hx hb hr hlocks dX0_threefold_8 (by rfl)

theorem zy_X0_whyAbove : yX0_whyAbove.cls = RX0 ∧ yX0_whyAbove.cls ≠ "java/lang/invoke/MethodHandle" ∧ yX0_whyAbove.cls ≠ "java/lang/invoke/VarHandle" ∧ (parseMethodDescriptor yX0_whyAbove.desc).map (fun d => d.parameters.length) = some 3 := by decide +kernel
def f_X0_whyAbove (B : BK) (th : Int32) (cv : Int32) (am : Int32) : Int32 :=
  if am ≤ th then
    if am ≤ cv then
      if (am - (f_X0_feeOf B am)) ≤ (B 8 0) then
        0
      else
        4
    else
      3
  else
    2

set_option maxHeartbeats 4000000 in
set_option maxRecDepth 100000 in
theorem zc_X0_whyAbove (l : Launch) (D : va_G) (cA : Nat → ClassId) (a : Nat → Nat) (B : BK) (th : Int32) (cv : Int32) (am : Int32)  : Met l yX0_whyAbove wsX0_whyAbove (zrm 1 21) (zPc D cA [.ref (a 0), .int th, .int cv, .int am] (bkW (cA 0) a B)) (zE (some (.int (f_X0_whyAbove B th cv am)))) 0 0 (fun _ => False) := by
  refine Met.ofW (cc := cX0_whyAbove) (maxL := 4) (ret := (some .int)) (by decide) rfl ?_
  intro p e s m args below meth c s₁ Bd hml hv
  obtain ⟨rfl, hP, hK, hD0⟩ := hv
  have hx := Bd.exec
  have hb := Bd.bytes
  have hr := Bd.returns
  have hts := atoms_spec (ws := wsX0_whyAbove) Bd.pre
  have hown : s.vm.findClass RX0 = some m.cls := findClass_of_methodNamed Bd.named
  have hlocks := Bd.notSynchronized
  have hD := z_Dfr hD0
  have hS : va_S (zfr (bkW (cA 0) a B)) s.heap s.heap [] := va_S.rf
  have hi0 : ∀ w ∈ wsX00, w ∈ wsX0_whyAbove := fun w h => List.mem_cons_of_mem _ (List.mem_append_right _ h)
  have hl := lv_entry ([.ref (a 0), .int th, .int cv, .int am]) (n := 4) (Nat.le_of_ble_eq_true rfl)
  rw [lg_entry_eq]
  generalize (lg_sl ([.ref (a 0), .int th, .int cv, .int am]) ++ List.replicate (4 - (lg_sl ([.ref (a 0), .int th, .int cv, .int am])).length) Slot.unset).toArray = ls at hl ⊢
  have hl : lv_has ls 4 [(0, .ref (a 0)), (1, .int th), (2, .int cv), (3, .int am)] := hl
  refine lv_iload_n hx hb dX0_whyAbove_0 rfl (lv_at hl 3 rfl) ?_
  refine lv_iload_n hx hb dX0_whyAbove_1 rfl (lv_at hl 1 rfl) ?_
  refine lv_icmp_le (tgt := 7) hx hb dX0_whyAbove_2 (by decide) (fun c_1 => ?_) (fun c_1 => ?_)
  · refine lv_iload_n hx hb dX0_whyAbove_7 rfl (lv_at hl 3 rfl) ?_
    refine lv_iload_n hx hb dX0_whyAbove_8 rfl (lv_at hl 2 rfl) ?_
    refine lv_icmp_le (tgt := 14) hx hb dX0_whyAbove_9 (by decide) (fun c_2 => ?_) (fun c_2 => ?_)
    · refine lv_aload_n hx hb dX0_whyAbove_14 rfl (lv_at hl 0 rfl) ?_
      refine va_get (D := D) (ci := 0) (v := .int (B 8 0)) (C := RX0) (T := TX0) (N := 16) hx hb hts hi0 hown hK hP 0 rfl rfl 8 (by decide) (hts (.fieldLink RX0 40 "PledgedLoans$Books" "till" "I") (List.mem_of_getElem? (i := 1) rfl)) (fun _ h9 => h9) rfl dX0_whyAbove_15 ?_
      refine lv_iload_n hx hb dX0_whyAbove_18 rfl (lv_at hl 3 rfl) ?_
      refine lv_aload_n hx hb dX0_whyAbove_19 rfl (lv_at hl 0 rfl) ?_
      refine lv_iload_n hx hb dX0_whyAbove_20 rfl (lv_at hl 3 rfl) ?_
      refine z_E (va_runV (As := [.int am]) (rest := [.int am, .int (B 8 0)]) ⟨hx, hb, hml, hown, hts⟩ (zc_X0_feeOf l D cA a B am) (cwV 1 hts gX0_whyAbove_X0_feeOf rfl rfl rfl zy_X0_feeOf ⟨Nat.le_of_ble_eq_true rfl, Nat.le_of_ble_eq_true rfl⟩) (z_preV (ci := 0) hK hP hD rfl rfl) rfl rfl hl.1 rfl (lv_room (Nat.le_of_ble_eq_true rfl)) dX0_whyAbove_21 ⟨Nat.zero_le _, Nat.zero_le _⟩) rfl ?_
      refine lv_isub hx hb dX0_whyAbove_24 ?_
      refine lv_icmp_ge (tgt := 32) hx hb dX0_whyAbove_25 (by decide) (fun c_3 => ?_) (fun c_3 => ?_)
      · refine lv_iconst (v := 0) hx hb dX0_whyAbove_32 (by decide) ?_
        exact z_iretE hx hb hr hlocks dX0_whyAbove_33 (by simp only [f_X0_whyAbove, if_pos c_1, if_pos c_2, if_pos c_3])
      · refine lv_iconst (v := 4) hx hb dX0_whyAbove_28 (by decide) ?_
        refine lv_goto (tgt := 33) hx hb dX0_whyAbove_29 (by decide) ?_
        exact z_iretE hx hb hr hlocks dX0_whyAbove_33 (by simp only [f_X0_whyAbove, if_pos c_1, if_pos c_2, if_neg c_3])
    · refine lv_iconst (v := 3) hx hb dX0_whyAbove_12 (by decide) ?_
      exact z_iretE hx hb hr hlocks dX0_whyAbove_13 (by simp only [f_X0_whyAbove, if_pos c_1, if_neg c_2])
  · refine lv_iconst (v := 2) hx hb dX0_whyAbove_5 (by decide) ?_
    exact z_iretE hx hb hr hlocks dX0_whyAbove_6 (by simp only [f_X0_whyAbove, if_neg c_1])

theorem zy_X0_whyNoLoan : yX0_whyNoLoan.cls = RX0 ∧ yX0_whyNoLoan.cls ≠ "java/lang/invoke/MethodHandle" ∧ yX0_whyNoLoan.cls ≠ "java/lang/invoke/VarHandle" ∧ (parseMethodDescriptor yX0_whyNoLoan.desc).map (fun d => d.parameters.length) = some 2 := by decide +kernel
def f_X0_whyNoLoan (B : BK) (mb : Nat) (am : Int32) : Int32 :=
  if (f_X0_hasLoan B mb) = 0 then
    f_X0_whyAbove B (f_X0_threefold B mb) (f_X0_cover B mb) am
  else
    1

set_option maxHeartbeats 4000000 in
set_option maxRecDepth 100000 in
theorem zc_X0_whyNoLoan (l : Launch) (D : va_G) (cA : Nat → ClassId) (a : Nat → Nat) (B : BK) (mb : Nat) (am : Int32) (hmb : mb < 6) : Met l yX0_whyNoLoan wsX0_whyNoLoan (zrm 3 66) (zPc D cA [.ref (a 0), .int (nI mb), .int am] (bkW (cA 0) a B)) (zE (some (.int (f_X0_whyNoLoan B mb am)))) 0 0 (fun _ => False) := by
  refine Met.ofW (cc := cX0_whyNoLoan) (maxL := 3) (ret := (some .int)) (by decide) rfl ?_
  intro p e s m args below meth c s₁ Bd hml hv
  obtain ⟨rfl, hP, hK, hD0⟩ := hv
  have hx := Bd.exec
  have hb := Bd.bytes
  have hr := Bd.returns
  have hts := atoms_spec (ws := wsX0_whyNoLoan) Bd.pre
  have hown : s.vm.findClass RX0 = some m.cls := findClass_of_methodNamed Bd.named
  have hlocks := Bd.notSynchronized
  have hD := z_Dfr hD0
  have hS : va_S (zfr (bkW (cA 0) a B)) s.heap s.heap [] := va_S.rf
  have hi0 : ∀ w ∈ wsX00, w ∈ wsX0_whyNoLoan := fun w h => List.mem_cons_of_mem _ (List.mem_append_right _ h)
  have hl := lv_entry ([.ref (a 0), .int (nI mb), .int am]) (n := 3) (Nat.le_of_ble_eq_true rfl)
  rw [lg_entry_eq]
  generalize (lg_sl ([.ref (a 0), .int (nI mb), .int am]) ++ List.replicate (3 - (lg_sl ([.ref (a 0), .int (nI mb), .int am])).length) Slot.unset).toArray = ls at hl ⊢
  have hl : lv_has ls 3 [(0, .ref (a 0)), (1, .int (nI mb)), (2, .int am)] := hl
  refine lv_aload_n hx hb dX0_whyNoLoan_0 rfl (lv_at hl 0 rfl) ?_
  refine lv_iload_n hx hb dX0_whyNoLoan_1 rfl (lv_at hl 1 rfl) ?_
  refine z_E (va_runV (As := [.int (nI mb)]) (rest := []) ⟨hx, hb, hml, hown, hts⟩ (zc_X0_hasLoan l D cA a B mb (by omega)) (cwV 1 hts gX0_whyNoLoan_X0_hasLoan rfl rfl rfl zy_X0_hasLoan ⟨Nat.le_of_ble_eq_true rfl, Nat.le_of_ble_eq_true rfl⟩) (z_preV (ci := 0) hK hP hD rfl rfl) rfl rfl hl.1 rfl (lv_room (Nat.le_of_ble_eq_true rfl)) dX0_whyNoLoan_2 ⟨Nat.zero_le _, Nat.zero_le _⟩) rfl ?_
  refine lv_if_eq (tgt := 10) hx hb dX0_whyNoLoan_5 (by decide) (fun c_1 => ?_) (fun c_1 => ?_)
  · refine lv_aload_n hx hb dX0_whyNoLoan_10 rfl (lv_at hl 0 rfl) ?_
    refine lv_aload_n hx hb dX0_whyNoLoan_11 rfl (lv_at hl 0 rfl) ?_
    refine lv_iload_n hx hb dX0_whyNoLoan_12 rfl (lv_at hl 1 rfl) ?_
    refine z_E (va_runV (As := [.int (nI mb)]) (rest := [.ref (a 0)]) ⟨hx, hb, hml, hown, hts⟩ (zc_X0_threefold l D cA a B mb (by omega)) (cwV 1 hts gX0_whyNoLoan_X0_threefold rfl rfl rfl zy_X0_threefold ⟨Nat.le_of_ble_eq_true rfl, Nat.le_of_ble_eq_true rfl⟩) (z_preV (ci := 0) hK hP hD rfl rfl) rfl rfl hl.1 rfl (lv_room (Nat.le_of_ble_eq_true rfl)) dX0_whyNoLoan_13 ⟨Nat.zero_le _, Nat.zero_le _⟩) rfl ?_
    refine lv_aload_n hx hb dX0_whyNoLoan_16 rfl (lv_at hl 0 rfl) ?_
    refine lv_iload_n hx hb dX0_whyNoLoan_17 rfl (lv_at hl 1 rfl) ?_
    refine z_E (va_runV (As := [.int (nI mb)]) (rest := [.int (f_X0_threefold B mb), .ref (a 0)]) ⟨hx, hb, hml, hown, hts⟩ (zc_X0_cover l D cA a B mb (by omega)) (cwV 1 hts gX0_whyNoLoan_X0_cover rfl rfl rfl zy_X0_cover ⟨Nat.le_of_ble_eq_true rfl, Nat.le_of_ble_eq_true rfl⟩) (z_preV (ci := 0) hK hP hD rfl rfl) rfl rfl hl.1 rfl (lv_room (Nat.le_of_ble_eq_true rfl)) dX0_whyNoLoan_18 ⟨Nat.zero_le _, Nat.zero_le _⟩) rfl ?_
    refine lv_iload_n hx hb dX0_whyNoLoan_21 rfl (lv_at hl 2 rfl) ?_
    refine z_E (va_runV (As := [.int (f_X0_threefold B mb), .int (f_X0_cover B mb), .int am]) (rest := []) ⟨hx, hb, hml, hown, hts⟩ (zc_X0_whyAbove l D cA a B (f_X0_threefold B mb) (f_X0_cover B mb) am) (cwV 3 hts gX0_whyNoLoan_X0_whyAbove rfl rfl rfl zy_X0_whyAbove ⟨Nat.le_of_ble_eq_true rfl, Nat.le_of_ble_eq_true rfl⟩) (z_preV (ci := 0) hK hP hD rfl rfl) rfl rfl hl.1 rfl (lv_room (Nat.le_of_ble_eq_true rfl)) dX0_whyNoLoan_22 ⟨Nat.zero_le _, Nat.zero_le _⟩) rfl ?_
    exact z_iretE hx hb hr hlocks dX0_whyNoLoan_25 (by simp only [f_X0_whyNoLoan, if_pos c_1])
  · refine lv_iconst (v := 1) hx hb dX0_whyNoLoan_8 (by decide) ?_
    exact z_iretE hx hb hr hlocks dX0_whyNoLoan_9 (by simp only [f_X0_whyNoLoan, if_neg c_1])

theorem zy_X0_lend : yX0_lend.cls = RX0 ∧ yX0_lend.cls ≠ "java/lang/invoke/MethodHandle" ∧ yX0_lend.cls ≠ "java/lang/invoke/VarHandle" ∧ (parseMethodDescriptor yX0_lend.desc).map (fun d => d.parameters.length) = some 3 := by decide +kernel
def f_X0_lend (B : BK) (mb : Nat) (am : Int32) (wk : Int32) : Int32 × BK :=
  if (f_X0_whyNoLoan B mb am) = 0 then
    let M_2 : BK := uB (uB B 8 0 ((B 8 0) - (am - (f_X0_feeOf B am)))) 8 1 (((uB B 8 0 ((B 8 0) - (am - (f_X0_feeOf B am)))) 8 1) + (f_X0_feeOf B am))
    let M_3 : BK := uB (uB (uB M_2 3 mb am) 4 mb (((am + wk) - 1) / wk)) 5 mb 0
    let M_4 : BK := uB (uB M_3 6 mb 0) 8 2 (((uB M_3 6 mb 0) 8 2) + 1)
    (0, M_4)
  else
    (f_X0_whyNoLoan B mb am, uB B 8 6 ((B 8 6) + 1))

set_option maxHeartbeats 4000000 in
set_option maxRecDepth 100000 in
theorem zc_X0_lend (l : Launch) (D : va_G) (cA : Nat → ClassId) (a : Nat → Nat) (B : BK) (mb : Nat) (am : Int32) (wk : Int32) (hmb : mb < 6) (hwk : ¬ wk = 0) : Met l yX0_lend wsX0_lend (zrm 4 88) (zPc D cA [.ref (a 0), .int (nI mb), .int am, .int wk] (bkW (cA 0) a B)) (zM D (bkW (cA 0) a B) (bkW (cA 0) a ((f_X0_lend B mb am wk).2)) (some (.int ((f_X0_lend B mb am wk).1)))) 0 0 (zfr (bkW (cA 0) a B)) := by
  refine Met.ofW (cc := cX0_lend) (maxL := 6) (ret := (some .int)) (by decide) rfl ?_
  intro p e s m args below meth c s₁ Bd hml hv
  obtain ⟨rfl, hP, hK, hD0⟩ := hv
  have hx := Bd.exec
  have hb := Bd.bytes
  have hr := Bd.returns
  have hts := atoms_spec (ws := wsX0_lend) Bd.pre
  have hown : s.vm.findClass RX0 = some m.cls := findClass_of_methodNamed Bd.named
  have hlocks := Bd.notSynchronized
  have hD := z_Dfr hD0
  have hS : va_S (zfr (bkW (cA 0) a B)) s.heap s.heap [] := va_S.rf
  have hi0 : ∀ w ∈ wsX00, w ∈ wsX0_lend := fun w h => List.mem_cons_of_mem _ (List.mem_append_right _ h)
  have hl := lv_entry ([.ref (a 0), .int (nI mb), .int am, .int wk]) (n := 6) (Nat.le_of_ble_eq_true rfl)
  rw [lg_entry_eq]
  generalize (lg_sl ([.ref (a 0), .int (nI mb), .int am, .int wk]) ++ List.replicate (6 - (lg_sl ([.ref (a 0), .int (nI mb), .int am, .int wk])).length) Slot.unset).toArray = ls at hl ⊢
  have hl : lv_has ls 6 [(0, .ref (a 0)), (1, .int (nI mb)), (2, .int am), (3, .int wk)] := hl
  refine lv_aload_n hx hb dX0_lend_0 rfl (lv_at hl 0 rfl) ?_
  refine lv_iload_n hx hb dX0_lend_1 rfl (lv_at hl 1 rfl) ?_
  refine lv_iload_n hx hb dX0_lend_2 rfl (lv_at hl 2 rfl) ?_
  refine z_E (va_runV (As := [.int (nI mb), .int am]) (rest := []) ⟨hx, hb, hml, hown, hts⟩ (zc_X0_whyNoLoan l D cA a B mb am (by omega)) (cwV 2 hts gX0_lend_X0_whyNoLoan rfl rfl rfl zy_X0_whyNoLoan ⟨Nat.le_of_ble_eq_true rfl, Nat.le_of_ble_eq_true rfl⟩) (z_preV (ci := 0) hK hP hD rfl rfl) rfl rfl hl.1 rfl (lv_room (Nat.le_of_ble_eq_true rfl)) dX0_lend_3 ⟨Nat.zero_le _, Nat.zero_le _⟩) rfl ?_
  refine lv_istore (lv' := [(4, .int (f_X0_whyNoLoan B mb am)), (0, .ref (a 0)), (1, .int (nI mb)), (2, .int am), (3, .int wk)]) hx hb dX0_lend_6 hl (by decide) rfl (fun ls hl => ?_)
  refine lv_iload hx hb dX0_lend_8 (lv_at hl 0 rfl) ?_
  refine lv_if_eq (tgt := 26) hx hb dX0_lend_10 (by decide) (fun c_1 => ?_) (fun c_1 => ?_)
  · refine lv_aload_n hx hb dX0_lend_26 rfl (lv_at hl 1 rfl) ?_
    refine lv_iload_n hx hb dX0_lend_27 rfl (lv_at hl 3 rfl) ?_
    refine z_E (va_runV (As := [.int am]) (rest := []) ⟨hx, hb, hml, hown, hts⟩ (zc_X0_feeOf l D cA a B am) (cwV 1 hts gX0_lend_X0_feeOf rfl rfl rfl zy_X0_feeOf ⟨Nat.le_of_ble_eq_true rfl, Nat.le_of_ble_eq_true rfl⟩) (z_preV (ci := 0) hK hP hD rfl rfl) rfl rfl hl.1 rfl (lv_room (Nat.le_of_ble_eq_true rfl)) dX0_lend_28 ⟨Nat.zero_le _, Nat.zero_le _⟩) rfl ?_
    refine lv_istore (lv' := [(5, .int (f_X0_feeOf B am)), (4, .int (f_X0_whyNoLoan B mb am)), (0, .ref (a 0)), (1, .int (nI mb)), (2, .int am), (3, .int wk)]) hx hb dX0_lend_31 hl (by decide) rfl (fun ls hl => ?_)
    refine lv_aload_n hx hb dX0_lend_33 rfl (lv_at hl 2 rfl) ?_
    refine lv_dup hx hb dX0_lend_34 rfl ?_
    refine va_get (D := D) (ci := 0) (v := .int (B 8 0)) (C := RX0) (T := TX0) (N := 16) hx hb hts hi0 hown hK hP 0 rfl rfl 8 (by decide) (hts (.fieldLink RX0 40 "PledgedLoans$Books" "till" "I") (List.mem_of_getElem? (i := 2) rfl)) (fun _ h9 => h9) rfl dX0_lend_35 ?_
    refine lv_iload_n hx hb dX0_lend_38 rfl (lv_at hl 4 rfl) ?_
    refine lv_iload hx hb dX0_lend_39 (lv_at hl 0 rfl) ?_
    refine lv_isub hx hb dX0_lend_41 ?_
    refine lv_isub hx hb dX0_lend_42 ?_
    refine va_put (D := D) (ci := 0) (v := .int ((B 8 0) - (am - (f_X0_feeOf B am)))) (ty := .int) (C := RX0) (T := TX0) (N := 16) hx hb hts hi0 tyX0 tyX0_ok nmX0 hown hK hP hD hS 0 rfl rfl 8 (by decide) (hts (.fieldLink RX0 40 "PledgedLoans$Books" "till" "I") (List.mem_of_getElem? (i := 2) rfl)) (fun _ h9 => h9) rfl (by decide +kernel) rfl rfl (Nat.le_of_ble_eq_true rfl) dX0_lend_43 (fun H locs hP hD hS => ?_)
    have hP : va_P D vwCl (bkW (cA 0) a (uB B 8 0 ((B 8 0) - (am - (f_X0_feeOf B am))))) H := hP
    have hD : va_D _ (bkW (cA 0) a (uB B 8 0 ((B 8 0) - (am - (f_X0_feeOf B am))))) := hD
    refine lv_aload_n hx hb dX0_lend_46 rfl (lv_at hl 2 rfl) ?_
    refine lv_dup hx hb dX0_lend_47 rfl ?_
    refine va_get (D := D) (ci := 0) (v := .int ((uB B 8 0 ((B 8 0) - (am - (f_X0_feeOf B am)))) 8 1)) (C := RX0) (T := TX0) (N := 16) hx hb hts hi0 hown hK hP 0 rfl rfl 9 (by decide) (hts (.fieldLink RX0 44 "PledgedLoans$Books" "surplus" "I") (List.mem_of_getElem? (i := 3) rfl)) (fun _ h9 => h9) rfl dX0_lend_48 ?_
    refine lv_iload hx hb dX0_lend_51 (lv_at hl 0 rfl) ?_
    refine lv_iadd hx hb dX0_lend_53 ?_
    refine va_put (D := D) (ci := 0) (v := .int (((uB B 8 0 ((B 8 0) - (am - (f_X0_feeOf B am)))) 8 1) + (f_X0_feeOf B am))) (ty := .int) (C := RX0) (T := TX0) (N := 16) hx hb hts hi0 tyX0 tyX0_ok nmX0 hown hK hP hD hS 0 rfl rfl 9 (by decide) (hts (.fieldLink RX0 44 "PledgedLoans$Books" "surplus" "I") (List.mem_of_getElem? (i := 3) rfl)) (fun _ h9 => h9) rfl (by decide +kernel) rfl rfl (Nat.le_of_ble_eq_true rfl) dX0_lend_54 (fun H locs hP hD hS => ?_)
    have hP : va_P D vwCl (bkW (cA 0) a (uB (uB B 8 0 ((B 8 0) - (am - (f_X0_feeOf B am)))) 8 1 (((uB B 8 0 ((B 8 0) - (am - (f_X0_feeOf B am)))) 8 1) + (f_X0_feeOf B am)))) H := hP
    have hD : va_D _ (bkW (cA 0) a (uB (uB B 8 0 ((B 8 0) - (am - (f_X0_feeOf B am)))) 8 1 (((uB B 8 0 ((B 8 0) - (am - (f_X0_feeOf B am)))) 8 1) + (f_X0_feeOf B am)))) := hD
    obtain ⟨M_2, eM_2⟩ : ∃ z9 : BK, z9 = uB (uB B 8 0 ((B 8 0) - (am - (f_X0_feeOf B am)))) 8 1 (((uB B 8 0 ((B 8 0) - (am - (f_X0_feeOf B am)))) 8 1) + (f_X0_feeOf B am)) := ⟨_, rfl⟩
    rw [← eM_2] at hP hD
    refine lv_aload_n hx hb dX0_lend_57 rfl (lv_at hl 2 rfl) ?_
    refine va_get (D := D) (ci := 0) (v := .ref (a 4)) (C := RX0) (T := TX0) (N := 16) hx hb hts hi0 hown hK hP 0 rfl rfl 3 (by decide) (hts (.fieldLink RX0 21 "PledgedLoans$Books" "rest" "[I") (List.mem_of_getElem? (i := 4) rfl)) (fun _ h9 => h9) rfl dX0_lend_58 ?_
    refine lv_iload_n hx hb dX0_lend_61 rfl (lv_at hl 3 rfl) ?_
    refine lv_iload_n hx hb dX0_lend_62 rfl (lv_at hl 4 rfl) ?_
    refine z_iast (j := mb) hx hb hK hP hD hS 4 0 rfl rfl dX0_lend_63 (by omega) (by decide) (bkW (cA 0) a (uB M_2 3 mb am)) rfl (fun H locs hP hD hS => ?_)
    refine lv_aload_n hx hb dX0_lend_64 rfl (lv_at hl 2 rfl) ?_
    refine va_get (D := D) (ci := 0) (v := .ref (a 5)) (C := RX0) (T := TX0) (N := 16) hx hb hts hi0 hown hK hP 0 rfl rfl 4 (by decide) (hts (.fieldLink RX0 24 "PledgedLoans$Books" "part" "[I") (List.mem_of_getElem? (i := 5) rfl)) (fun _ h9 => h9) rfl dX0_lend_65 ?_
    refine lv_iload_n hx hb dX0_lend_68 rfl (lv_at hl 3 rfl) ?_
    refine lv_iload_n hx hb dX0_lend_69 rfl (lv_at hl 4 rfl) ?_
    refine lv_iload_n hx hb dX0_lend_70 rfl (lv_at hl 5 rfl) ?_
    refine lv_iadd hx hb dX0_lend_71 ?_
    refine lv_iconst (v := 1) hx hb dX0_lend_72 (by decide) ?_
    refine lv_isub hx hb dX0_lend_73 ?_
    refine lv_iload_n hx hb dX0_lend_74 rfl (lv_at hl 5 rfl) ?_
    refine lv_idiv hx hb dX0_lend_75 hwk ?_
    refine z_iast (j := mb) hx hb hK hP hD hS 5 0 rfl rfl dX0_lend_76 (by omega) (by decide) (bkW (cA 0) a (uB (uB M_2 3 mb am) 4 mb (((am + wk) - 1) / wk))) rfl (fun H locs hP hD hS => ?_)
    refine lv_aload_n hx hb dX0_lend_77 rfl (lv_at hl 2 rfl) ?_
    refine va_get (D := D) (ci := 0) (v := .ref (a 6)) (C := RX0) (T := TX0) (N := 16) hx hb hts hi0 hown hK hP 0 rfl rfl 5 (by decide) (hts (.fieldLink RX0 27 "PledgedLoans$Books" "paid" "[I") (List.mem_of_getElem? (i := 6) rfl)) (fun _ h9 => h9) rfl dX0_lend_78 ?_
    refine lv_iload_n hx hb dX0_lend_81 rfl (lv_at hl 3 rfl) ?_
    refine lv_iconst (v := 0) hx hb dX0_lend_82 (by decide) ?_
    refine z_iast (j := mb) hx hb hK hP hD hS 6 0 rfl rfl dX0_lend_83 (by omega) (by decide) (bkW (cA 0) a (uB (uB (uB M_2 3 mb am) 4 mb (((am + wk) - 1) / wk)) 5 mb 0)) rfl (fun H locs hP hD hS => ?_)
    obtain ⟨M_3, eM_3⟩ : ∃ z9 : BK, z9 = uB (uB (uB M_2 3 mb am) 4 mb (((am + wk) - 1) / wk)) 5 mb 0 := ⟨_, rfl⟩
    rw [← eM_3] at hP hD
    refine lv_aload_n hx hb dX0_lend_84 rfl (lv_at hl 2 rfl) ?_
    refine va_get (D := D) (ci := 0) (v := .ref (a 7)) (C := RX0) (T := TX0) (N := 16) hx hb hts hi0 hown hK hP 0 rfl rfl 6 (by decide) (hts (.fieldLink RX0 30 "PledgedLoans$Books" "misses" "[I") (List.mem_of_getElem? (i := 7) rfl)) (fun _ h9 => h9) rfl dX0_lend_85 ?_
    refine lv_iload_n hx hb dX0_lend_88 rfl (lv_at hl 3 rfl) ?_
    refine lv_iconst (v := 0) hx hb dX0_lend_89 (by decide) ?_
    refine z_iast (j := mb) hx hb hK hP hD hS 7 0 rfl rfl dX0_lend_90 (by omega) (by decide) (bkW (cA 0) a (uB M_3 6 mb 0)) rfl (fun H locs hP hD hS => ?_)
    refine lv_aload_n hx hb dX0_lend_91 rfl (lv_at hl 2 rfl) ?_
    refine lv_dup hx hb dX0_lend_92 rfl ?_
    refine va_get (D := D) (ci := 0) (v := .int ((uB M_3 6 mb 0) 8 2)) (C := RX0) (T := TX0) (N := 16) hx hb hts hi0 hown hK hP 0 rfl rfl 10 (by decide) (hts (.fieldLink RX0 47 "PledgedLoans$Books" "loansGiven" "I") (List.mem_of_getElem? (i := 8) rfl)) (fun _ h9 => h9) rfl dX0_lend_93 ?_
    refine lv_iconst (v := 1) hx hb dX0_lend_96 (by decide) ?_
    refine lv_iadd hx hb dX0_lend_97 ?_
    refine va_put (D := D) (ci := 0) (v := .int (((uB M_3 6 mb 0) 8 2) + 1)) (ty := .int) (C := RX0) (T := TX0) (N := 16) hx hb hts hi0 tyX0 tyX0_ok nmX0 hown hK hP hD hS 0 rfl rfl 10 (by decide) (hts (.fieldLink RX0 47 "PledgedLoans$Books" "loansGiven" "I") (List.mem_of_getElem? (i := 8) rfl)) (fun _ h9 => h9) rfl (by decide +kernel) rfl rfl (Nat.le_of_ble_eq_true rfl) dX0_lend_98 (fun H locs hP hD hS => ?_)
    have hP : va_P D vwCl (bkW (cA 0) a (uB (uB M_3 6 mb 0) 8 2 (((uB M_3 6 mb 0) 8 2) + 1))) H := hP
    have hD : va_D _ (bkW (cA 0) a (uB (uB M_3 6 mb 0) 8 2 (((uB M_3 6 mb 0) 8 2) + 1))) := hD
    obtain ⟨M_4, eM_4⟩ : ∃ z9 : BK, z9 = uB (uB M_3 6 mb 0) 8 2 (((uB M_3 6 mb 0) 8 2) + 1) := ⟨_, rfl⟩
    rw [← eM_4] at hP hD
    refine lv_iconst (v := 0) hx hb dX0_lend_101 (by decide) ?_
    exact z_iretM (w1 := bkW (cA 0) a M_4) hx hb hr hlocks dX0_lend_102 hP hS (by subst eM_4 eM_3 eM_2; simp only [f_X0_lend, if_pos c_1]) (by subst eM_4 eM_3 eM_2; simp only [f_X0_lend, if_pos c_1])
  · refine lv_aload_n hx hb dX0_lend_13 rfl (lv_at hl 1 rfl) ?_
    refine lv_dup hx hb dX0_lend_14 rfl ?_
    refine va_get (D := D) (ci := 0) (v := .int (B 8 6)) (C := RX0) (T := TX0) (N := 16) hx hb hts hi0 hown hK hP 0 rfl rfl 14 (by decide) (hts (.fieldLink RX0 59 "PledgedLoans$Books" "refused" "I") (List.mem_of_getElem? (i := 1) rfl)) (fun _ h9 => h9) rfl dX0_lend_15 ?_
    refine lv_iconst (v := 1) hx hb dX0_lend_18 (by decide) ?_
    refine lv_iadd hx hb dX0_lend_19 ?_
    refine va_put (D := D) (ci := 0) (v := .int ((B 8 6) + 1)) (ty := .int) (C := RX0) (T := TX0) (N := 16) hx hb hts hi0 tyX0 tyX0_ok nmX0 hown hK hP hD hS 0 rfl rfl 14 (by decide) (hts (.fieldLink RX0 59 "PledgedLoans$Books" "refused" "I") (List.mem_of_getElem? (i := 1) rfl)) (fun _ h9 => h9) rfl (by decide +kernel) rfl rfl (Nat.le_of_ble_eq_true rfl) dX0_lend_20 (fun H locs hP hD hS => ?_)
    have hP : va_P D vwCl (bkW (cA 0) a (uB B 8 6 ((B 8 6) + 1))) H := hP
    have hD : va_D _ (bkW (cA 0) a (uB B 8 6 ((B 8 6) + 1))) := hD
    refine lv_iload hx hb dX0_lend_23 (lv_at hl 0 rfl) ?_
    exact z_iretM (w1 := bkW (cA 0) a (uB B 8 6 ((B 8 6) + 1))) hx hb hr hlocks dX0_lend_25 hP hS (by simp only [f_X0_lend, if_neg c_1]) (by simp only [f_X0_lend, if_neg c_1])

theorem zy_X0_takeBack : yX0_takeBack.cls = RX0 ∧ yX0_takeBack.cls ≠ "java/lang/invoke/MethodHandle" ∧ yX0_takeBack.cls ≠ "java/lang/invoke/VarHandle" ∧ (parseMethodDescriptor yX0_takeBack.desc).map (fun d => d.parameters.length) = some 2 := by decide +kernel
def f_X0_takeBack (B : BK) (mb : Nat) (am : Int32) : Int32 × BK :=
  if am ≤ (B 3 mb) then
    let M_2 : BK := uB (uB B 8 0 ((B 8 0) + am)) 3 mb (((uB B 8 0 ((B 8 0) + am)) 3 mb) - am)
    ((uB M_2 5 mb ((M_2 5 mb) + am)) 3 mb, uB M_2 5 mb ((M_2 5 mb) + am))
  else
    ((-1), uB B 8 6 ((B 8 6) + 1))

set_option maxHeartbeats 4000000 in
set_option maxRecDepth 100000 in
theorem zc_X0_takeBack (l : Launch) (D : va_G) (cA : Nat → ClassId) (a : Nat → Nat) (B : BK) (mb : Nat) (am : Int32) (hmb : mb < 6) : Met l yX0_takeBack wsX0_takeBack (zrm 0 0) (zPc D cA [.ref (a 0), .int (nI mb), .int am] (bkW (cA 0) a B)) (zM D (bkW (cA 0) a B) (bkW (cA 0) a ((f_X0_takeBack B mb am).2)) (some (.int ((f_X0_takeBack B mb am).1)))) 0 0 (zfr (bkW (cA 0) a B)) := by
  refine Met.ofW (cc := cX0_takeBack) (maxL := 3) (ret := (some .int)) (by decide) rfl ?_
  intro p e s m args below meth c s₁ Bd hml hv
  obtain ⟨rfl, hP, hK, hD0⟩ := hv
  have hx := Bd.exec
  have hb := Bd.bytes
  have hr := Bd.returns
  have hts := atoms_spec (ws := wsX0_takeBack) Bd.pre
  have hown : s.vm.findClass RX0 = some m.cls := findClass_of_methodNamed Bd.named
  have hlocks := Bd.notSynchronized
  have hD := z_Dfr hD0
  have hS : va_S (zfr (bkW (cA 0) a B)) s.heap s.heap [] := va_S.rf
  have hi0 : ∀ w ∈ wsX00, w ∈ wsX0_takeBack := fun w h => List.mem_cons_of_mem _ (List.mem_append_right _ h)
  have hl := lv_entry ([.ref (a 0), .int (nI mb), .int am]) (n := 3) (Nat.le_of_ble_eq_true rfl)
  rw [lg_entry_eq]
  generalize (lg_sl ([.ref (a 0), .int (nI mb), .int am]) ++ List.replicate (3 - (lg_sl ([.ref (a 0), .int (nI mb), .int am])).length) Slot.unset).toArray = ls at hl ⊢
  have hl : lv_has ls 3 [(0, .ref (a 0)), (1, .int (nI mb)), (2, .int am)] := hl
  refine lv_iload_n hx hb dX0_takeBack_0 rfl (lv_at hl 2 rfl) ?_
  refine lv_aload_n hx hb dX0_takeBack_1 rfl (lv_at hl 0 rfl) ?_
  refine va_get (D := D) (ci := 0) (v := .ref (a 4)) (C := RX0) (T := TX0) (N := 16) hx hb hts hi0 hown hK hP 0 rfl rfl 3 (by decide) (hts (.fieldLink RX0 21 "PledgedLoans$Books" "rest" "[I") (List.mem_of_getElem? (i := 1) rfl)) (fun _ h9 => h9) rfl dX0_takeBack_2 ?_
  refine lv_iload_n hx hb dX0_takeBack_5 rfl (lv_at hl 1 rfl) ?_
  refine z_iald (j := mb) hx hb hK hP 4 0 rfl rfl dX0_takeBack_6 (by omega) (by decide) ?_
  refine lv_icmp_le (tgt := 22) hx hb dX0_takeBack_7 (by decide) (fun c_1 => ?_) (fun c_1 => ?_)
  · refine lv_aload_n hx hb dX0_takeBack_22 rfl (lv_at hl 0 rfl) ?_
    refine lv_dup hx hb dX0_takeBack_23 rfl ?_
    refine va_get (D := D) (ci := 0) (v := .int (B 8 0)) (C := RX0) (T := TX0) (N := 16) hx hb hts hi0 hown hK hP 0 rfl rfl 8 (by decide) (hts (.fieldLink RX0 40 "PledgedLoans$Books" "till" "I") (List.mem_of_getElem? (i := 3) rfl)) (fun _ h9 => h9) rfl dX0_takeBack_24 ?_
    refine lv_iload_n hx hb dX0_takeBack_27 rfl (lv_at hl 2 rfl) ?_
    refine lv_iadd hx hb dX0_takeBack_28 ?_
    refine va_put (D := D) (ci := 0) (v := .int ((B 8 0) + am)) (ty := .int) (C := RX0) (T := TX0) (N := 16) hx hb hts hi0 tyX0 tyX0_ok nmX0 hown hK hP hD hS 0 rfl rfl 8 (by decide) (hts (.fieldLink RX0 40 "PledgedLoans$Books" "till" "I") (List.mem_of_getElem? (i := 3) rfl)) (fun _ h9 => h9) rfl (by decide +kernel) rfl rfl (Nat.le_of_ble_eq_true rfl) dX0_takeBack_29 (fun H locs hP hD hS => ?_)
    have hP : va_P D vwCl (bkW (cA 0) a (uB B 8 0 ((B 8 0) + am))) H := hP
    have hD : va_D _ (bkW (cA 0) a (uB B 8 0 ((B 8 0) + am))) := hD
    refine lv_aload_n hx hb dX0_takeBack_32 rfl (lv_at hl 0 rfl) ?_
    refine va_get (D := D) (ci := 0) (v := .ref (a 4)) (C := RX0) (T := TX0) (N := 16) hx hb hts hi0 hown hK hP 0 rfl rfl 3 (by decide) (hts (.fieldLink RX0 21 "PledgedLoans$Books" "rest" "[I") (List.mem_of_getElem? (i := 1) rfl)) (fun _ h9 => h9) rfl dX0_takeBack_33 ?_
    refine lv_iload_n hx hb dX0_takeBack_36 rfl (lv_at hl 1 rfl) ?_
    refine lv_dup2_11 hx hb dX0_takeBack_37 rfl rfl ?_
    refine z_iald (j := mb) hx hb hK hP 4 0 rfl rfl dX0_takeBack_38 (by omega) (by decide) ?_
    refine lv_iload_n hx hb dX0_takeBack_39 rfl (lv_at hl 2 rfl) ?_
    refine lv_isub hx hb dX0_takeBack_40 ?_
    refine z_iast (j := mb) hx hb hK hP hD hS 4 0 rfl rfl dX0_takeBack_41 (by omega) (by decide) (bkW (cA 0) a (uB (uB B 8 0 ((B 8 0) + am)) 3 mb (((uB B 8 0 ((B 8 0) + am)) 3 mb) - am))) rfl (fun H locs hP hD hS => ?_)
    obtain ⟨M_2, eM_2⟩ : ∃ z9 : BK, z9 = uB (uB B 8 0 ((B 8 0) + am)) 3 mb (((uB B 8 0 ((B 8 0) + am)) 3 mb) - am) := ⟨_, rfl⟩
    rw [← eM_2] at hP hD
    refine lv_aload_n hx hb dX0_takeBack_42 rfl (lv_at hl 0 rfl) ?_
    refine va_get (D := D) (ci := 0) (v := .ref (a 6)) (C := RX0) (T := TX0) (N := 16) hx hb hts hi0 hown hK hP 0 rfl rfl 5 (by decide) (hts (.fieldLink RX0 27 "PledgedLoans$Books" "paid" "[I") (List.mem_of_getElem? (i := 4) rfl)) (fun _ h9 => h9) rfl dX0_takeBack_43 ?_
    refine lv_iload_n hx hb dX0_takeBack_46 rfl (lv_at hl 1 rfl) ?_
    refine lv_dup2_11 hx hb dX0_takeBack_47 rfl rfl ?_
    refine z_iald (j := mb) hx hb hK hP 6 0 rfl rfl dX0_takeBack_48 (by omega) (by decide) ?_
    refine lv_iload_n hx hb dX0_takeBack_49 rfl (lv_at hl 2 rfl) ?_
    refine lv_iadd hx hb dX0_takeBack_50 ?_
    refine z_iast (j := mb) hx hb hK hP hD hS 6 0 rfl rfl dX0_takeBack_51 (by omega) (by decide) (bkW (cA 0) a (uB M_2 5 mb ((M_2 5 mb) + am))) rfl (fun H locs hP hD hS => ?_)
    refine lv_aload_n hx hb dX0_takeBack_52 rfl (lv_at hl 0 rfl) ?_
    refine va_get (D := D) (ci := 0) (v := .ref (a 4)) (C := RX0) (T := TX0) (N := 16) hx hb hts hi0 hown hK hP 0 rfl rfl 3 (by decide) (hts (.fieldLink RX0 21 "PledgedLoans$Books" "rest" "[I") (List.mem_of_getElem? (i := 1) rfl)) (fun _ h9 => h9) rfl dX0_takeBack_53 ?_
    refine lv_iload_n hx hb dX0_takeBack_56 rfl (lv_at hl 1 rfl) ?_
    refine z_iald (j := mb) hx hb hK hP 4 0 rfl rfl dX0_takeBack_57 (by omega) (by decide) ?_
    exact z_iretM (w1 := bkW (cA 0) a (uB M_2 5 mb ((M_2 5 mb) + am))) hx hb hr hlocks dX0_takeBack_58 hP hS (by subst eM_2; simp only [f_X0_takeBack, if_pos c_1]) (by subst eM_2; simp only [f_X0_takeBack, if_pos c_1])
  · refine lv_aload_n hx hb dX0_takeBack_10 rfl (lv_at hl 0 rfl) ?_
    refine lv_dup hx hb dX0_takeBack_11 rfl ?_
    refine va_get (D := D) (ci := 0) (v := .int (B 8 6)) (C := RX0) (T := TX0) (N := 16) hx hb hts hi0 hown hK hP 0 rfl rfl 14 (by decide) (hts (.fieldLink RX0 59 "PledgedLoans$Books" "refused" "I") (List.mem_of_getElem? (i := 2) rfl)) (fun _ h9 => h9) rfl dX0_takeBack_12 ?_
    refine lv_iconst (v := 1) hx hb dX0_takeBack_15 (by decide) ?_
    refine lv_iadd hx hb dX0_takeBack_16 ?_
    refine va_put (D := D) (ci := 0) (v := .int ((B 8 6) + 1)) (ty := .int) (C := RX0) (T := TX0) (N := 16) hx hb hts hi0 tyX0 tyX0_ok nmX0 hown hK hP hD hS 0 rfl rfl 14 (by decide) (hts (.fieldLink RX0 59 "PledgedLoans$Books" "refused" "I") (List.mem_of_getElem? (i := 2) rfl)) (fun _ h9 => h9) rfl (by decide +kernel) rfl rfl (Nat.le_of_ble_eq_true rfl) dX0_takeBack_17 (fun H locs hP hD hS => ?_)
    have hP : va_P D vwCl (bkW (cA 0) a (uB B 8 6 ((B 8 6) + 1))) H := hP
    have hD : va_D _ (bkW (cA 0) a (uB B 8 6 ((B 8 6) + 1))) := hD
    refine lv_iconst (v := (-1)) hx hb dX0_takeBack_20 (by decide) ?_
    exact z_iretM (w1 := bkW (cA 0) a (uB B 8 6 ((B 8 6) + 1))) hx hb hr hlocks dX0_takeBack_21 hP hS (by simp only [f_X0_takeBack, if_neg c_1]) (by simp only [f_X0_takeBack, if_neg c_1])

theorem zy_X0_weeksByWeeks : yX0_weeksByWeeks.cls = RX0 ∧ yX0_weeksByWeeks.cls ≠ "java/lang/invoke/MethodHandle" ∧ yX0_weeksByWeeks.cls ≠ "java/lang/invoke/VarHandle" ∧ (parseMethodDescriptor yX0_weeksByWeeks.desc).map (fun d => d.parameters.length) = some 1 := by decide +kernel
def f_X0_weeksByWeeks_9 (B : BK) (mb : Nat) : Nat → Int32 → Nat → Int32
  | 0, x, q => 0
  | k + 1, x, q =>
    if x ≤ 0 then
      nI q
    else
      if 9999 ≤ q then
        nI q
      else
        f_X0_weeksByWeeks_9 B mb k (x - (zmin x (B 4 mb))) (q + 1)
def f_X0_weeksByWeeks (B : BK) (mb : Nat) : Int32 :=
  f_X0_weeksByWeeks_9 B mb 10001 (B 3 mb) 0

set_option maxHeartbeats 4000000 in
set_option maxRecDepth 100000 in
theorem zc_X0_weeksByWeeks (l : Launch) (D : va_G) (cA : Nat → ClassId) (a : Nat → Nat) (B : BK) (mb : Nat) (hmb : mb < 6) : Met l yX0_weeksByWeeks wsX0_weeksByWeeks (zrm 1 30) (zPc D cA [.ref (a 0), .int (nI mb)] (bkW (cA 0) a B)) (zE (some (.int (f_X0_weeksByWeeks B mb)))) 0 0 (fun _ => False) := by
  refine Met.ofW (cc := cX0_weeksByWeeks) (maxL := 4) (ret := (some .int)) (by decide) rfl ?_
  intro p e s m args below meth c s₁ Bd hml hv
  obtain ⟨rfl, hP, hK, hD0⟩ := hv
  have hx := Bd.exec
  have hb := Bd.bytes
  have hr := Bd.returns
  have hts := atoms_spec (ws := wsX0_weeksByWeeks) Bd.pre
  have hown : s.vm.findClass RX0 = some m.cls := findClass_of_methodNamed Bd.named
  have hlocks := Bd.notSynchronized
  have hD := z_Dfr hD0
  have hS : va_S (zfr (bkW (cA 0) a B)) s.heap s.heap [] := va_S.rf
  have hi0 : ∀ w ∈ wsX00, w ∈ wsX0_weeksByWeeks := fun w h => List.mem_cons_of_mem _ (List.mem_append_right _ h)
  have hl := lv_entry ([.ref (a 0), .int (nI mb)]) (n := 4) (Nat.le_of_ble_eq_true rfl)
  rw [lg_entry_eq]
  generalize (lg_sl ([.ref (a 0), .int (nI mb)]) ++ List.replicate (4 - (lg_sl ([.ref (a 0), .int (nI mb)])).length) Slot.unset).toArray = ls at hl ⊢
  have hl : lv_has ls 4 [(0, .ref (a 0)), (1, .int (nI mb))] := hl
  refine lv_aload_n hx hb dX0_weeksByWeeks_0 rfl (lv_at hl 0 rfl) ?_
  refine va_get (D := D) (ci := 0) (v := .ref (a 4)) (C := RX0) (T := TX0) (N := 16) hx hb hts hi0 hown hK hP 0 rfl rfl 3 (by decide) (hts (.fieldLink RX0 21 "PledgedLoans$Books" "rest" "[I") (List.mem_of_getElem? (i := 1) rfl)) (fun _ h9 => h9) rfl dX0_weeksByWeeks_1 ?_
  refine lv_iload_n hx hb dX0_weeksByWeeks_4 rfl (lv_at hl 1 rfl) ?_
  refine z_iald (j := mb) hx hb hK hP 4 0 rfl rfl dX0_weeksByWeeks_5 (by omega) (by decide) ?_
  refine lv_istore_n (lv' := [(2, .int (B 3 mb)), (0, .ref (a 0)), (1, .int (nI mb))]) hx hb dX0_weeksByWeeks_6 rfl hl (by decide) rfl (fun ls hl => ?_)
  refine lv_iconst (v := 0) hx hb dX0_weeksByWeeks_7 (by decide) ?_
  refine lv_istore_n (lv' := [(3, .int 0), (2, .int (B 3 mb)), (0, .ref (a 0)), (1, .int (nI mb))]) hx hb dX0_weeksByWeeks_8 rfl hl (by decide) rfl (fun ls hl => ?_)
  have loop_9 : ∀ (kk : Nat) (x : Int32) (q : Nat), 10000 - q < kk → q < 10000 → f_X0_weeksByWeeks B mb = f_X0_weeksByWeeks_9 B mb kk x q → ∀ (ls : Array Slot), lv_has ls 4 [(0, .ref (a 0)), (1, .int (nI mb)), (2, .int x), (3, .int (nI q))] → W p l e (headSpec wsX0_weeksByWeeks (zrm 1 30)).room s m ([.ref (a 0), .int (nI mb)] : List Value).toArray below meth c s.heap [] 0 0 (MQ below (zE (some (.int (f_X0_weeksByWeeks B mb)))) ([.ref (a 0), .int (nI mb)] : List Value).toArray s 0 0 (fun _ => False)) (F0 m 9 ls []) := by
    intro kk
    induction kk with
    | zero => intro x q h9; exact absurd h9 (Nat.not_lt_zero _)
    | succ kk ih_9 =>
      intro x q hm_9 hi0_9 hres_9 ls hl
      refine lv_iload_n hx hb dX0_weeksByWeeks_9 rfl (lv_at hl 2 rfl) ?_
      refine lv_if_le (tgt := 39) hx hb dX0_weeksByWeeks_10 (by decide) (fun c_1 => ?_) (fun c_1 => ?_)
      · refine lv_iload_n hx hb dX0_weeksByWeeks_39 rfl (lv_at hl 3 rfl) ?_
        exact z_iretE hx hb hr hlocks dX0_weeksByWeeks_40 (by rw [hres_9]; simp only [f_X0_weeksByWeeks_9, if_pos c_1])
      · refine lv_iload_n hx hb dX0_weeksByWeeks_13 rfl (lv_at hl 3 rfl) ?_
        refine lv_sipush (v := 9999) hx hb dX0_weeksByWeeks_14 (by decide) ?_
        refine lv_icmp_ge (tgt := 39) hx hb dX0_weeksByWeeks_17 (by decide) (fun c_2 => ?_) (fun c_2 => ?_)
        · have c_2 : 9999 ≤ q := (nI_leI (a := 9999) (b := q) (by omega) (by omega)).mp c_2
          refine lv_iload_n hx hb dX0_weeksByWeeks_39 rfl (lv_at hl 3 rfl) ?_
          exact z_iretE hx hb hr hlocks dX0_weeksByWeeks_40 (by rw [hres_9]; simp only [f_X0_weeksByWeeks_9, if_neg c_1, if_pos c_2])
        · have c_2 : ¬ 9999 ≤ q := fun h9 => c_2 ((nI_leI (a := 9999) (b := q) (by omega) (by omega)).mpr h9)
          refine lv_iload_n hx hb dX0_weeksByWeeks_20 rfl (lv_at hl 2 rfl) ?_
          refine lv_iload_n hx hb dX0_weeksByWeeks_21 rfl (lv_at hl 2 rfl) ?_
          refine lv_aload_n hx hb dX0_weeksByWeeks_22 rfl (lv_at hl 0 rfl) ?_
          refine va_get (D := D) (ci := 0) (v := .ref (a 5)) (C := RX0) (T := TX0) (N := 16) hx hb hts hi0 hown hK hP 0 rfl rfl 4 (by decide) (hts (.fieldLink RX0 24 "PledgedLoans$Books" "part" "[I") (List.mem_of_getElem? (i := 2) rfl)) (fun _ h9 => h9) rfl dX0_weeksByWeeks_23 ?_
          refine lv_iload_n hx hb dX0_weeksByWeeks_26 rfl (lv_at hl 1 rfl) ?_
          refine z_iald (j := mb) hx hb hK hP 5 0 rfl rfl dX0_weeksByWeeks_27 (by omega) (by decide) ?_
          refine va_mmin hx hb (by rw [hml]; exact hl.1.symm) hown (hts (.methodLink RX0 65 Lib.Math.min.name) (List.mem_of_getElem? (i := 3) rfl)) (hts (.static Lib.Math.min.name) (List.mem_of_getElem? (i := 4) rfl)) (hts (.initialized "java/lang/Math") (List.mem_of_getElem? (i := 5) rfl)) (hts (.code Lib.Math.min.name Lib.Math.min.code 2 (some .int)) (List.mem_of_getElem? (i := 6) rfl)) (Nat.le_of_ble_eq_true rfl) (Nat.le_of_ble_eq_true rfl) (Nat.zero_le _) (Nat.zero_le _) dX0_weeksByWeeks_28 ?_
          refine z_top (y := zmin x (B 4 mb)) rfl ?_
          refine lv_isub hx hb dX0_weeksByWeeks_31 ?_
          refine lv_istore_n (lv' := [(2, .int (x - (zmin x (B 4 mb)))), (0, .ref (a 0)), (1, .int (nI mb)), (3, .int (nI q))]) hx hb dX0_weeksByWeeks_32 rfl hl (by decide) rfl (fun ls hl => ?_)
          refine lv_iinc (v := nI (q + 1)) (lv' := [(3, .int (nI (q + 1))), (2, .int (x - (zmin x (B 4 mb)))), (0, .ref (a 0)), (1, .int (nI mb))]) hx hb dX0_weeksByWeeks_33 hl (k := 3) rfl (by rw [show (Int32.ofInt 1) = nI 1 from by decide]; exact nI_add q 1) (by decide) rfl (fun ls hl => ?_)
          refine lv_goto (tgt := 9) hx hb dX0_weeksByWeeks_36 (by decide) ?_
          exact ih_9 (x - (zmin x (B 4 mb))) (q + 1) (by omega) (by omega) (by rw [hres_9]; simp only [f_X0_weeksByWeeks_9, if_neg c_1, if_neg c_2]) ls (lv_sub hl [2, 3, 1, 0] rfl)
  exact loop_9 10001 (B 3 mb) 0 (by omega) (by omega) (by rfl) ls (lv_sub hl [2, 3, 1, 0] rfl)

theorem zy_X0_weeksAtOnce : yX0_weeksAtOnce.cls = RX0 ∧ yX0_weeksAtOnce.cls ≠ "java/lang/invoke/MethodHandle" ∧ yX0_weeksAtOnce.cls ≠ "java/lang/invoke/VarHandle" ∧ (parseMethodDescriptor yX0_weeksAtOnce.desc).map (fun d => d.parameters.length) = some 1 := by decide +kernel
def f_X0_weeksAtOnce (B : BK) (mb : Nat) : Int32 :=
  if (f_X0_hasLoan B mb) = 0 then
    0
  else
    if 1 ≤ (B 4 mb) then
      (((B 3 mb) + (B 4 mb)) - 1) / (B 4 mb)
    else
      0

set_option maxHeartbeats 4000000 in
set_option maxRecDepth 100000 in
theorem zc_X0_weeksAtOnce (l : Launch) (D : va_G) (cA : Nat → ClassId) (a : Nat → Nat) (B : BK) (mb : Nat) (hmb : mb < 6) : Met l yX0_weeksAtOnce wsX0_weeksAtOnce (zrm 1 21) (zPc D cA [.ref (a 0), .int (nI mb)] (bkW (cA 0) a B)) (zE (some (.int (f_X0_weeksAtOnce B mb)))) 0 0 (fun _ => False) := by
  refine Met.ofW (cc := cX0_weeksAtOnce) (maxL := 3) (ret := (some .int)) (by decide) rfl ?_
  intro p e s m args below meth c s₁ Bd hml hv
  obtain ⟨rfl, hP, hK, hD0⟩ := hv
  have hx := Bd.exec
  have hb := Bd.bytes
  have hr := Bd.returns
  have hts := atoms_spec (ws := wsX0_weeksAtOnce) Bd.pre
  have hown : s.vm.findClass RX0 = some m.cls := findClass_of_methodNamed Bd.named
  have hlocks := Bd.notSynchronized
  have hD := z_Dfr hD0
  have hS : va_S (zfr (bkW (cA 0) a B)) s.heap s.heap [] := va_S.rf
  have hi0 : ∀ w ∈ wsX00, w ∈ wsX0_weeksAtOnce := fun w h => List.mem_cons_of_mem _ (List.mem_append_right _ h)
  have hl := lv_entry ([.ref (a 0), .int (nI mb)]) (n := 3) (Nat.le_of_ble_eq_true rfl)
  rw [lg_entry_eq]
  generalize (lg_sl ([.ref (a 0), .int (nI mb)]) ++ List.replicate (3 - (lg_sl ([.ref (a 0), .int (nI mb)])).length) Slot.unset).toArray = ls at hl ⊢
  have hl : lv_has ls 3 [(0, .ref (a 0)), (1, .int (nI mb))] := hl
  refine lv_aload_n hx hb dX0_weeksAtOnce_0 rfl (lv_at hl 0 rfl) ?_
  refine va_get (D := D) (ci := 0) (v := .ref (a 5)) (C := RX0) (T := TX0) (N := 16) hx hb hts hi0 hown hK hP 0 rfl rfl 4 (by decide) (hts (.fieldLink RX0 24 "PledgedLoans$Books" "part" "[I") (List.mem_of_getElem? (i := 1) rfl)) (fun _ h9 => h9) rfl dX0_weeksAtOnce_1 ?_
  refine lv_iload_n hx hb dX0_weeksAtOnce_4 rfl (lv_at hl 1 rfl) ?_
  refine z_iald (j := mb) hx hb hK hP 5 0 rfl rfl dX0_weeksAtOnce_5 (by omega) (by decide) ?_
  refine lv_istore_n (lv' := [(2, .int (B 4 mb)), (0, .ref (a 0)), (1, .int (nI mb))]) hx hb dX0_weeksAtOnce_6 rfl hl (by decide) rfl (fun ls hl => ?_)
  refine lv_aload_n hx hb dX0_weeksAtOnce_7 rfl (lv_at hl 1 rfl) ?_
  refine lv_iload_n hx hb dX0_weeksAtOnce_8 rfl (lv_at hl 2 rfl) ?_
  refine z_E (va_runV (As := [.int (nI mb)]) (rest := []) ⟨hx, hb, hml, hown, hts⟩ (zc_X0_hasLoan l D cA a B mb (by omega)) (cwV 1 hts gX0_weeksAtOnce_X0_hasLoan rfl rfl rfl zy_X0_hasLoan ⟨Nat.le_of_ble_eq_true rfl, Nat.le_of_ble_eq_true rfl⟩) (z_preV (ci := 0) hK hP hD rfl rfl) rfl rfl hl.1 rfl (lv_room (Nat.le_of_ble_eq_true rfl)) dX0_weeksAtOnce_9 ⟨Nat.zero_le _, Nat.zero_le _⟩) rfl ?_
  refine lv_if_eq (tgt := 20) hx hb dX0_weeksAtOnce_12 (by decide) (fun c_1 => ?_) (fun c_1 => ?_)
  · refine lv_iconst (v := 0) hx hb dX0_weeksAtOnce_20 (by decide) ?_
    exact z_iretE hx hb hr hlocks dX0_weeksAtOnce_21 (by simp only [f_X0_weeksAtOnce, if_pos c_1])
  · refine lv_iload_n hx hb dX0_weeksAtOnce_15 rfl (lv_at hl 0 rfl) ?_
    refine lv_iconst (v := 1) hx hb dX0_weeksAtOnce_16 (by decide) ?_
    refine lv_icmp_ge (tgt := 22) hx hb dX0_weeksAtOnce_17 (by decide) (fun c_2 => ?_) (fun c_2 => ?_)
    · refine lv_aload_n hx hb dX0_weeksAtOnce_22 rfl (lv_at hl 1 rfl) ?_
      refine va_get (D := D) (ci := 0) (v := .ref (a 4)) (C := RX0) (T := TX0) (N := 16) hx hb hts hi0 hown hK hP 0 rfl rfl 3 (by decide) (hts (.fieldLink RX0 21 "PledgedLoans$Books" "rest" "[I") (List.mem_of_getElem? (i := 2) rfl)) (fun _ h9 => h9) rfl dX0_weeksAtOnce_23 ?_
      refine lv_iload_n hx hb dX0_weeksAtOnce_26 rfl (lv_at hl 2 rfl) ?_
      refine z_iald (j := mb) hx hb hK hP 4 0 rfl rfl dX0_weeksAtOnce_27 (by omega) (by decide) ?_
      refine lv_iload_n hx hb dX0_weeksAtOnce_28 rfl (lv_at hl 0 rfl) ?_
      refine lv_iadd hx hb dX0_weeksAtOnce_29 ?_
      refine lv_iconst (v := 1) hx hb dX0_weeksAtOnce_30 (by decide) ?_
      refine lv_isub hx hb dX0_weeksAtOnce_31 ?_
      refine lv_iload_n hx hb dX0_weeksAtOnce_32 rfl (lv_at hl 0 rfl) ?_
      refine lv_idiv hx hb dX0_weeksAtOnce_33 (by decide) ?_
      exact z_iretE hx hb hr hlocks dX0_weeksAtOnce_34 (by simp only [f_X0_weeksAtOnce, if_neg c_1, if_pos c_2])
    · refine lv_iconst (v := 0) hx hb dX0_weeksAtOnce_20 (by decide) ?_
      exact z_iretE hx hb hr hlocks dX0_weeksAtOnce_21 (by simp only [f_X0_weeksAtOnce, if_neg c_1, if_neg c_2])

theorem zy_X0_mostAtStake : yX0_mostAtStake.cls = RX0 ∧ yX0_mostAtStake.cls ≠ "java/lang/invoke/MethodHandle" ∧ yX0_mostAtStake.cls ≠ "java/lang/invoke/VarHandle" ∧ (parseMethodDescriptor yX0_mostAtStake.desc).map (fun d => d.parameters.length) = some 0 := by decide +kernel
def f_X0_mostAtStake_6 (B : BK) (i0 : Int32) (i1 : Int32) : Nat → Int32 × Int32
  | 0 => (i0, i1)
  | n + 1 =>
    let y0_6 : Int32 := (f_X0_mostAtStake_6 B i0 i1 n).1
    let y1_6 : Int32 := (f_X0_mostAtStake_6 B i0 i1 n).2
    if (f_X0_hasLoan B n) = 0 then
      (y0_6, y1_6)
    else
      if ((B 3 n) - (f_X0_ownLeft B n)) ≤ y1_6 then
        (y0_6, y1_6)
      else
        (nI n, (B 3 n) - (f_X0_ownLeft B n))
def f_X0_mostAtStake (B : BK) : Int32 :=
  let y0_6 : Int32 := (f_X0_mostAtStake_6 B (-1) 0 6).1
  let y1_6 : Int32 := (f_X0_mostAtStake_6 B (-1) 0 6).2
  y0_6

set_option maxHeartbeats 4000000 in
set_option maxRecDepth 100000 in
theorem zc_X0_mostAtStake (l : Launch) (D : va_G) (cA : Nat → ClassId) (a : Nat → Nat) (B : BK)  : Met l yX0_mostAtStake wsX0_mostAtStake (zrm 2 45) (zPc D cA [.ref (a 0)] (bkW (cA 0) a B)) (zE (some (.int (f_X0_mostAtStake B)))) 0 0 (fun _ => False) := by
  refine Met.ofW (cc := cX0_mostAtStake) (maxL := 5) (ret := (some .int)) (by decide) rfl ?_
  intro p e s m args below meth c s₁ Bd hml hv
  obtain ⟨rfl, hP, hK, hD0⟩ := hv
  have hx := Bd.exec
  have hb := Bd.bytes
  have hr := Bd.returns
  have hts := atoms_spec (ws := wsX0_mostAtStake) Bd.pre
  have hown : s.vm.findClass RX0 = some m.cls := findClass_of_methodNamed Bd.named
  have hlocks := Bd.notSynchronized
  have hD := z_Dfr hD0
  have hS : va_S (zfr (bkW (cA 0) a B)) s.heap s.heap [] := va_S.rf
  have hi0 : ∀ w ∈ wsX00, w ∈ wsX0_mostAtStake := fun w h => List.mem_cons_of_mem _ (List.mem_append_right _ h)
  have hl := lv_entry ([.ref (a 0)]) (n := 5) (Nat.le_of_ble_eq_true rfl)
  rw [lg_entry_eq]
  generalize (lg_sl ([.ref (a 0)]) ++ List.replicate (5 - (lg_sl ([.ref (a 0)])).length) Slot.unset).toArray = ls at hl ⊢
  have hl : lv_has ls 5 [(0, .ref (a 0))] := hl
  refine lv_iconst (v := (-1)) hx hb dX0_mostAtStake_0 (by decide) ?_
  refine lv_istore_n (lv' := [(1, .int (-1)), (0, .ref (a 0))]) hx hb dX0_mostAtStake_1 rfl hl (by decide) rfl (fun ls hl => ?_)
  refine lv_iconst (v := 0) hx hb dX0_mostAtStake_2 (by decide) ?_
  refine lv_istore_n (lv' := [(2, .int 0), (1, .int (-1)), (0, .ref (a 0))]) hx hb dX0_mostAtStake_3 rfl hl (by decide) rfl (fun ls hl => ?_)
  refine lv_iconst (v := 0) hx hb dX0_mostAtStake_4 (by decide) ?_
  refine lv_istore_n (lv' := [(3, .int 0), (2, .int 0), (1, .int (-1)), (0, .ref (a 0))]) hx hb dX0_mostAtStake_5 rfl hl (by decide) rfl (fun ls hl => ?_)
  have loop_6 : ∀ (kk : Nat) (n : Nat) (y0_6 : Int32) (y1_6 : Int32), n ≤ 6 → 6 - n < kk → y0_6 = (f_X0_mostAtStake_6 B (-1) 0 n).1 → y1_6 = (f_X0_mostAtStake_6 B (-1) 0 n).2 → ∀ (ls : Array Slot), lv_has ls 5 [(0, .ref (a 0)), (1, .int y0_6), (2, .int y1_6), (3, .int (nI n))] → W p l e (headSpec wsX0_mostAtStake (zrm 2 45)).room s m ([.ref (a 0)] : List Value).toArray below meth c s.heap [] 0 0 (MQ below (zE (some (.int (f_X0_mostAtStake B)))) ([.ref (a 0)] : List Value).toArray s 0 0 (fun _ => False)) (F0 m 6 ls []) := by
    intro kk
    induction kk with
    | zero => intro n y0_6 y1_6 _ h9; exact absurd h9 (Nat.not_lt_zero _)
    | succ kk ih_6 =>
      intro n y0_6 y1_6 hn_6 hm_6 q_y0_6 q_y1_6 ls hl
      refine lv_iload_n hx hb dX0_mostAtStake_6 rfl (lv_at hl 3 rfl) ?_
      refine lv_bipush (v := 6) hx hb dX0_mostAtStake_7 (by decide) ?_
      refine lv_icmp_ge (tgt := 51) hx hb dX0_mostAtStake_9 (by decide) (fun c_1 => ?_) (fun c_1 => ?_)
      · have c_1 : 6 ≤ n := (nI_leI (a := 6) (b := n) (by omega) (by omega)).mp c_1
        obtain rfl : n = 6 := by omega
        refine lv_iload_n hx hb dX0_mostAtStake_51 rfl (lv_at hl 1 rfl) ?_
        exact z_iretE hx hb hr hlocks dX0_mostAtStake_52 (by subst q_y1_6 q_y0_6; rfl)
      · have c_1 : ¬ 6 ≤ n := fun h9 => c_1 ((nI_leI (a := 6) (b := n) (by omega) (by omega)).mpr h9)
        refine lv_aload_n hx hb dX0_mostAtStake_12 rfl (lv_at hl 0 rfl) ?_
        refine va_get (D := D) (ci := 0) (v := .ref (a 4)) (C := RX0) (T := TX0) (N := 16) hx hb hts hi0 hown hK hP 0 rfl rfl 3 (by decide) (hts (.fieldLink RX0 21 "PledgedLoans$Books" "rest" "[I") (List.mem_of_getElem? (i := 1) rfl)) (fun _ h9 => h9) rfl dX0_mostAtStake_13 ?_
        refine lv_iload_n hx hb dX0_mostAtStake_16 rfl (lv_at hl 3 rfl) ?_
        refine z_iald (j := n) hx hb hK hP 4 0 rfl rfl dX0_mostAtStake_17 (by omega) (by decide) ?_
        refine lv_aload_n hx hb dX0_mostAtStake_18 rfl (lv_at hl 0 rfl) ?_
        refine lv_iload_n hx hb dX0_mostAtStake_19 rfl (lv_at hl 3 rfl) ?_
        refine z_E (va_runV (As := [.int (nI n)]) (rest := [.int (B 3 n)]) ⟨hx, hb, hml, hown, hts⟩ (zc_X0_ownLeft l D cA a B n (by omega)) (cwV 1 hts gX0_mostAtStake_X0_ownLeft rfl rfl rfl zy_X0_ownLeft ⟨Nat.le_of_ble_eq_true rfl, Nat.le_of_ble_eq_true rfl⟩) (z_preV (ci := 0) hK hP hD rfl rfl) rfl rfl hl.1 rfl (lv_room (Nat.le_of_ble_eq_true rfl)) dX0_mostAtStake_20 ⟨Nat.zero_le _, Nat.zero_le _⟩) rfl ?_
        refine lv_isub hx hb dX0_mostAtStake_23 ?_
        refine lv_istore (lv' := [(4, .int ((B 3 n) - (f_X0_ownLeft B n))), (0, .ref (a 0)), (1, .int y0_6), (2, .int y1_6), (3, .int (nI n))]) hx hb dX0_mostAtStake_24 hl (by decide) rfl (fun ls hl => ?_)
        refine lv_aload_n hx hb dX0_mostAtStake_26 rfl (lv_at hl 1 rfl) ?_
        refine lv_iload_n hx hb dX0_mostAtStake_27 rfl (lv_at hl 4 rfl) ?_
        refine z_E (va_runV (As := [.int (nI n)]) (rest := []) ⟨hx, hb, hml, hown, hts⟩ (zc_X0_hasLoan l D cA a B n (by omega)) (cwV 1 hts gX0_mostAtStake_X0_hasLoan rfl rfl rfl zy_X0_hasLoan ⟨Nat.le_of_ble_eq_true rfl, Nat.le_of_ble_eq_true rfl⟩) (z_preV (ci := 0) hK hP hD rfl rfl) rfl rfl hl.1 rfl (lv_room (Nat.le_of_ble_eq_true rfl)) dX0_mostAtStake_28 ⟨Nat.zero_le _, Nat.zero_le _⟩) rfl ?_
        refine lv_if_eq (tgt := 45) hx hb dX0_mostAtStake_31 (by decide) (fun c_2 => ?_) (fun c_2 => ?_)
        · refine lv_iinc (v := nI (n + 1)) (lv' := [(3, .int (nI (n + 1))), (4, .int ((B 3 n) - (f_X0_ownLeft B n))), (0, .ref (a 0)), (1, .int y0_6), (2, .int y1_6)]) hx hb dX0_mostAtStake_45 hl (k := 4) rfl (by rw [show (Int32.ofInt 1) = nI 1 from by decide]; exact nI_add n 1) (by decide) rfl (fun ls hl => ?_)
          refine lv_goto (tgt := 6) hx hb dX0_mostAtStake_48 (by decide) ?_
          exact ih_6 (n + 1) _ _ (by omega) (by omega) (by subst q_y1_6 q_y0_6; simp only [f_X0_mostAtStake_6, if_pos c_2]) (by subst q_y1_6 q_y0_6; simp only [f_X0_mostAtStake_6, if_pos c_2]) ls (lv_sub hl [2, 3, 4, 0] rfl)
        · refine lv_iload hx hb dX0_mostAtStake_34 (lv_at hl 0 rfl) ?_
          refine lv_iload_n hx hb dX0_mostAtStake_36 rfl (lv_at hl 3 rfl) ?_
          refine lv_icmp_le (tgt := 45) hx hb dX0_mostAtStake_37 (by decide) (fun c_3 => ?_) (fun c_3 => ?_)
          · refine lv_iinc (v := nI (n + 1)) (lv' := [(3, .int (nI (n + 1))), (4, .int ((B 3 n) - (f_X0_ownLeft B n))), (0, .ref (a 0)), (1, .int y0_6), (2, .int y1_6)]) hx hb dX0_mostAtStake_45 hl (k := 4) rfl (by rw [show (Int32.ofInt 1) = nI 1 from by decide]; exact nI_add n 1) (by decide) rfl (fun ls hl => ?_)
            refine lv_goto (tgt := 6) hx hb dX0_mostAtStake_48 (by decide) ?_
            exact ih_6 (n + 1) _ _ (by omega) (by omega) (by subst q_y1_6 q_y0_6; simp only [f_X0_mostAtStake_6, if_neg c_2, if_pos c_3]) (by subst q_y1_6 q_y0_6; simp only [f_X0_mostAtStake_6, if_neg c_2, if_pos c_3]) ls (lv_sub hl [2, 3, 4, 0] rfl)
          · refine lv_iload hx hb dX0_mostAtStake_40 (lv_at hl 0 rfl) ?_
            refine lv_istore_n (lv' := [(2, .int ((B 3 n) - (f_X0_ownLeft B n))), (4, .int ((B 3 n) - (f_X0_ownLeft B n))), (0, .ref (a 0)), (1, .int y0_6), (3, .int (nI n))]) hx hb dX0_mostAtStake_42 rfl hl (by decide) rfl (fun ls hl => ?_)
            refine lv_iload_n hx hb dX0_mostAtStake_43 rfl (lv_at hl 4 rfl) ?_
            refine lv_istore_n (lv' := [(1, .int (nI n)), (2, .int ((B 3 n) - (f_X0_ownLeft B n))), (4, .int ((B 3 n) - (f_X0_ownLeft B n))), (0, .ref (a 0)), (3, .int (nI n))]) hx hb dX0_mostAtStake_44 rfl hl (by decide) rfl (fun ls hl => ?_)
            refine lv_iinc (v := nI (n + 1)) (lv' := [(3, .int (nI (n + 1))), (1, .int (nI n)), (2, .int ((B 3 n) - (f_X0_ownLeft B n))), (4, .int ((B 3 n) - (f_X0_ownLeft B n))), (0, .ref (a 0))]) hx hb dX0_mostAtStake_45 hl (k := 4) rfl (by rw [show (Int32.ofInt 1) = nI 1 from by decide]; exact nI_add n 1) (by decide) rfl (fun ls hl => ?_)
            refine lv_goto (tgt := 6) hx hb dX0_mostAtStake_48 (by decide) ?_
            exact ih_6 (n + 1) _ _ (by omega) (by omega) (by subst q_y1_6 q_y0_6; simp only [f_X0_mostAtStake_6, if_neg c_2, if_neg c_3]) (by subst q_y1_6 q_y0_6; simp only [f_X0_mostAtStake_6, if_neg c_2, if_neg c_3]) ls (lv_sub hl [4, 1, 2, 0] rfl)
  exact loop_6 _ 0 _ _ (by omega) (Nat.lt_succ_self _) rfl rfl ls (lv_sub hl [3, 2, 1, 0] rfl)

theorem zy_X0_canEndWeek : yX0_canEndWeek.cls = RX0 ∧ yX0_canEndWeek.cls ≠ "java/lang/invoke/MethodHandle" ∧ yX0_canEndWeek.cls ≠ "java/lang/invoke/VarHandle" ∧ (parseMethodDescriptor yX0_canEndWeek.desc).map (fun d => d.parameters.length) = some 0 := by decide +kernel
def f_X0_canEndWeek (B : BK) : Int32 :=
  if 9999 ≤ (B 8 4) then
    0
  else
    1

theorem zb_X0_canEndWeek (B : BK) : narrow .boolean (.int (f_X0_canEndWeek B)) = .int (f_X0_canEndWeek B) := by
  unfold f_X0_canEndWeek; repeat' split
  all_goals (first | rfl | (dsimp only; rfl))
set_option maxHeartbeats 4000000 in
set_option maxRecDepth 100000 in
theorem zc_X0_canEndWeek (l : Launch) (D : va_G) (cA : Nat → ClassId) (a : Nat → Nat) (B : BK)  : Met l yX0_canEndWeek wsX0_canEndWeek (zrm 0 0) (zPc D cA [.ref (a 0)] (bkW (cA 0) a B)) (zE (some (.int (f_X0_canEndWeek B)))) 0 0 (fun _ => False) := by
  refine Met.ofW (cc := cX0_canEndWeek) (maxL := 1) (ret := (some .boolean)) (by decide) rfl ?_
  intro p e s m args below meth c s₁ Bd hml hv
  obtain ⟨rfl, hP, hK, hD0⟩ := hv
  have hx := Bd.exec
  have hb := Bd.bytes
  have hr := Bd.returns
  have hts := atoms_spec (ws := wsX0_canEndWeek) Bd.pre
  have hown : s.vm.findClass RX0 = some m.cls := findClass_of_methodNamed Bd.named
  have hlocks := Bd.notSynchronized
  have hD := z_Dfr hD0
  have hS : va_S (zfr (bkW (cA 0) a B)) s.heap s.heap [] := va_S.rf
  have hi0 : ∀ w ∈ wsX00, w ∈ wsX0_canEndWeek := fun w h => List.mem_cons_of_mem _ (List.mem_append_right _ h)
  have hl := lv_entry ([.ref (a 0)]) (n := 1) (Nat.le_of_ble_eq_true rfl)
  rw [lg_entry_eq]
  generalize (lg_sl ([.ref (a 0)]) ++ List.replicate (1 - (lg_sl ([.ref (a 0)])).length) Slot.unset).toArray = ls at hl ⊢
  have hl : lv_has ls 1 [(0, .ref (a 0))] := hl
  refine lv_aload_n hx hb dX0_canEndWeek_0 rfl (lv_at hl 0 rfl) ?_
  refine va_get (D := D) (ci := 0) (v := .int (B 8 4)) (C := RX0) (T := TX0) (N := 16) hx hb hts hi0 hown hK hP 0 rfl rfl 12 (by decide) (hts (.fieldLink RX0 53 "PledgedLoans$Books" "weeksEnded" "I") (List.mem_of_getElem? (i := 1) rfl)) (fun _ h9 => h9) rfl dX0_canEndWeek_1 ?_
  refine lv_sipush (v := 9999) hx hb dX0_canEndWeek_4 (by decide) ?_
  refine lv_icmp_ge (tgt := 14) hx hb dX0_canEndWeek_7 (by decide) (fun c_1 => ?_) (fun c_1 => ?_)
  · refine lv_iconst (v := 0) hx hb dX0_canEndWeek_14 (by decide) ?_
    exact z_zretE hx hb hr hlocks dX0_canEndWeek_15 rfl (by simp only [f_X0_canEndWeek, if_pos c_1])
  · refine lv_iconst (v := 1) hx hb dX0_canEndWeek_10 (by decide) ?_
    refine lv_goto (tgt := 15) hx hb dX0_canEndWeek_11 (by decide) ?_
    exact z_zretE hx hb hr hlocks dX0_canEndWeek_15 rfl (by simp only [f_X0_canEndWeek, if_neg c_1])

theorem zy_X0_takeDue : yX0_takeDue.cls = RX0 ∧ yX0_takeDue.cls ≠ "java/lang/invoke/MethodHandle" ∧ yX0_takeDue.cls ≠ "java/lang/invoke/VarHandle" ∧ (parseMethodDescriptor yX0_takeDue.desc).map (fun d => d.parameters.length) = some 1 := by decide +kernel
def f_X0_takeDue_34 (B : BK) (mb : Nat) (i0 : Int32) (i1 : BK) : Nat → Int32 × BK
  | 0 => (i0, i1)
  | n + 1 =>
    let y0_34 : Int32 := (f_X0_takeDue_34 B mb i0 i1 n).1
    let y1_34 : BK := (f_X0_takeDue_34 B mb i0 i1 n).2
    let M_3 : BK := uB y1_34 0 n ((y1_34 0 n) - (zmin y0_34 (y1_34 2 (n * 6 + mb))))
    let M_4 : BK := uB M_3 2 (n * 6 + mb) ((M_3 2 (n * 6 + mb)) - (zmin y0_34 (y1_34 2 (n * 6 + mb))))
    (y0_34 - (zmin y0_34 (y1_34 2 (n * 6 + mb))), M_4)
def f_X0_takeDue (B : BK) (mb : Nat) : BK :=
  let M_1 : BK := uB B 0 mb ((B 0 mb) - (zmin (B 3 mb) (f_X0_ownLeft B mb)))
  let y0_34 : Int32 := (f_X0_takeDue_34 B mb ((B 3 mb) - (zmin (B 3 mb) (f_X0_ownLeft B mb))) M_1 6).1
  let y1_34 : BK := (f_X0_takeDue_34 B mb ((B 3 mb) - (zmin (B 3 mb) (f_X0_ownLeft B mb))) M_1 6).2
  uB y1_34 3 mb 0

set_option maxHeartbeats 4000000 in
set_option maxRecDepth 100000 in
theorem zc_X0_takeDue (l : Launch) (D : va_G) (cA : Nat → ClassId) (a : Nat → Nat) (B : BK) (mb : Nat) (hmb : mb < 6) : Met l yX0_takeDue wsX0_takeDue (zrm 2 45) (zPc D cA [.ref (a 0), .int (nI mb)] (bkW (cA 0) a B)) (zM D (bkW (cA 0) a B) (bkW (cA 0) a (f_X0_takeDue B mb)) none) 0 0 (zfr (bkW (cA 0) a B)) := by
  refine Met.ofW (cc := cX0_takeDue) (maxL := 7) (ret := none) (by decide) rfl ?_
  intro p e s m args below meth c s₁ Bd hml hv
  obtain ⟨rfl, hP, hK, hD0⟩ := hv
  have hx := Bd.exec
  have hb := Bd.bytes
  have hr := Bd.returns
  have hts := atoms_spec (ws := wsX0_takeDue) Bd.pre
  have hown : s.vm.findClass RX0 = some m.cls := findClass_of_methodNamed Bd.named
  have hlocks := Bd.notSynchronized
  have hD := z_Dfr hD0
  have hS : va_S (zfr (bkW (cA 0) a B)) s.heap s.heap [] := va_S.rf
  have hi0 : ∀ w ∈ wsX00, w ∈ wsX0_takeDue := fun w h => List.mem_cons_of_mem _ (List.mem_append_right _ h)
  have hl := lv_entry ([.ref (a 0), .int (nI mb)]) (n := 7) (Nat.le_of_ble_eq_true rfl)
  rw [lg_entry_eq]
  generalize (lg_sl ([.ref (a 0), .int (nI mb)]) ++ List.replicate (7 - (lg_sl ([.ref (a 0), .int (nI mb)])).length) Slot.unset).toArray = ls at hl ⊢
  have hl : lv_has ls 7 [(0, .ref (a 0)), (1, .int (nI mb))] := hl
  refine lv_aload_n hx hb dX0_takeDue_0 rfl (lv_at hl 0 rfl) ?_
  refine va_get (D := D) (ci := 0) (v := .ref (a 4)) (C := RX0) (T := TX0) (N := 16) hx hb hts hi0 hown hK hP 0 rfl rfl 3 (by decide) (hts (.fieldLink RX0 21 "PledgedLoans$Books" "rest" "[I") (List.mem_of_getElem? (i := 1) rfl)) (fun _ h9 => h9) rfl dX0_takeDue_1 ?_
  refine lv_iload_n hx hb dX0_takeDue_4 rfl (lv_at hl 1 rfl) ?_
  refine z_iald (j := mb) hx hb hK hP 4 0 rfl rfl dX0_takeDue_5 (by omega) (by decide) ?_
  refine lv_istore_n (lv' := [(2, .int (B 3 mb)), (0, .ref (a 0)), (1, .int (nI mb))]) hx hb dX0_takeDue_6 rfl hl (by decide) rfl (fun ls hl => ?_)
  refine lv_iload_n hx hb dX0_takeDue_7 rfl (lv_at hl 0 rfl) ?_
  refine lv_aload_n hx hb dX0_takeDue_8 rfl (lv_at hl 1 rfl) ?_
  refine lv_iload_n hx hb dX0_takeDue_9 rfl (lv_at hl 2 rfl) ?_
  refine z_E (va_runV (As := [.int (nI mb)]) (rest := [.int (B 3 mb)]) ⟨hx, hb, hml, hown, hts⟩ (zc_X0_ownLeft l D cA a B mb (by omega)) (cwV 1 hts gX0_takeDue_X0_ownLeft rfl rfl rfl zy_X0_ownLeft ⟨Nat.le_of_ble_eq_true rfl, Nat.le_of_ble_eq_true rfl⟩) (z_preV (ci := 0) hK hP hD rfl rfl) rfl rfl hl.1 rfl (lv_room (Nat.le_of_ble_eq_true rfl)) dX0_takeDue_10 ⟨Nat.zero_le _, Nat.zero_le _⟩) rfl ?_
  refine va_mmin hx hb (by rw [hml]; exact hl.1.symm) hown (hts (.methodLink RX0 65 Lib.Math.min.name) (List.mem_of_getElem? (i := 2) rfl)) (hts (.static Lib.Math.min.name) (List.mem_of_getElem? (i := 3) rfl)) (hts (.initialized "java/lang/Math") (List.mem_of_getElem? (i := 4) rfl)) (hts (.code Lib.Math.min.name Lib.Math.min.code 2 (some .int)) (List.mem_of_getElem? (i := 5) rfl)) (Nat.le_of_ble_eq_true rfl) (Nat.le_of_ble_eq_true rfl) (Nat.zero_le _) (Nat.zero_le _) dX0_takeDue_13 ?_
  refine z_top (y := zmin (B 3 mb) (f_X0_ownLeft B mb)) rfl ?_
  refine lv_istore_n (lv' := [(3, .int (zmin (B 3 mb) (f_X0_ownLeft B mb))), (2, .int (B 3 mb)), (0, .ref (a 0)), (1, .int (nI mb))]) hx hb dX0_takeDue_16 rfl hl (by decide) rfl (fun ls hl => ?_)
  refine lv_aload_n hx hb dX0_takeDue_17 rfl (lv_at hl 2 rfl) ?_
  refine va_get (D := D) (ci := 0) (v := .ref (a 1)) (C := RX0) (T := TX0) (N := 16) hx hb hts hi0 hown hK hP 0 rfl rfl 0 (by decide) (hts (.fieldLink RX0 9 "PledgedLoans$Books" "shares" "[I") (List.mem_of_getElem? (i := 6) rfl)) (fun _ h9 => h9) rfl dX0_takeDue_18 ?_
  refine lv_iload_n hx hb dX0_takeDue_21 rfl (lv_at hl 3 rfl) ?_
  refine lv_dup2_11 hx hb dX0_takeDue_22 rfl rfl ?_
  refine z_iald (j := mb) hx hb hK hP 1 0 rfl rfl dX0_takeDue_23 (by omega) (by decide) ?_
  refine lv_iload_n hx hb dX0_takeDue_24 rfl (lv_at hl 0 rfl) ?_
  refine lv_isub hx hb dX0_takeDue_25 ?_
  refine z_iast (j := mb) hx hb hK hP hD hS 1 0 rfl rfl dX0_takeDue_26 (by omega) (by decide) (bkW (cA 0) a (uB B 0 mb ((B 0 mb) - (zmin (B 3 mb) (f_X0_ownLeft B mb))))) rfl (fun H locs hP hD hS => ?_)
  obtain ⟨M_1, eM_1⟩ : ∃ z9 : BK, z9 = uB B 0 mb ((B 0 mb) - (zmin (B 3 mb) (f_X0_ownLeft B mb))) := ⟨_, rfl⟩
  rw [← eM_1] at hP hD
  refine lv_iload_n hx hb dX0_takeDue_27 rfl (lv_at hl 1 rfl) ?_
  refine lv_iload_n hx hb dX0_takeDue_28 rfl (lv_at hl 0 rfl) ?_
  refine lv_isub hx hb dX0_takeDue_29 ?_
  refine lv_istore_n (lv' := [(2, .int ((B 3 mb) - (zmin (B 3 mb) (f_X0_ownLeft B mb)))), (3, .int (zmin (B 3 mb) (f_X0_ownLeft B mb))), (0, .ref (a 0)), (1, .int (nI mb))]) hx hb dX0_takeDue_30 rfl hl (by decide) rfl (fun ls hl => ?_)
  refine lv_iconst (v := 0) hx hb dX0_takeDue_31 (by decide) ?_
  refine lv_istore (lv' := [(4, .int 0), (2, .int ((B 3 mb) - (zmin (B 3 mb) (f_X0_ownLeft B mb)))), (3, .int (zmin (B 3 mb) (f_X0_ownLeft B mb))), (0, .ref (a 0)), (1, .int (nI mb))]) hx hb dX0_takeDue_32 hl (by decide) rfl (fun ls hl => ?_)
  have loop_34 : ∀ (kk : Nat) (n : Nat) (y0_34 : Int32) (y1_34 : BK), n ≤ 6 → 6 - n < kk → y0_34 = (f_X0_takeDue_34 B mb ((B 3 mb) - (zmin (B 3 mb) (f_X0_ownLeft B mb))) M_1 n).1 → y1_34 = (f_X0_takeDue_34 B mb ((B 3 mb) - (zmin (B 3 mb) (f_X0_ownLeft B mb))) M_1 n).2 → ∀ (H : Heap) (locs : List Loc), va_P D vwCl (bkW (cA 0) a y1_34) H → va_D (zfr (bkW (cA 0) a B)) (bkW (cA 0) a y1_34) → va_S (zfr (bkW (cA 0) a B)) s.heap H locs → ∀ (ls : Array Slot), lv_has ls 7 [(0, .ref (a 0)), (1, .int (nI mb)), (2, .int y0_34), (4, .int (nI n))] → W p l e (headSpec wsX0_takeDue (zrm 2 45)).room s m ([.ref (a 0), .int (nI mb)] : List Value).toArray below meth c H locs 0 0 (MQ below (zM D (bkW (cA 0) a B) (bkW (cA 0) a (f_X0_takeDue B mb)) none) ([.ref (a 0), .int (nI mb)] : List Value).toArray s 0 0 (zfr (bkW (cA 0) a B))) (F0 m 34 ls []) := by
    intro kk
    induction kk with
    | zero => intro n y0_34 y1_34 _ h9; exact absurd h9 (Nat.not_lt_zero _)
    | succ kk ih_34 =>
      intro n y0_34 y1_34 hn_34 hm_34 q_y0_34 q_y1_34 H locs hP hD hS ls hl
      refine lv_iload hx hb dX0_takeDue_34 (lv_at hl 3 rfl) ?_
      refine lv_bipush (v := 6) hx hb dX0_takeDue_36 (by decide) ?_
      refine lv_icmp_ge (tgt := 97) hx hb dX0_takeDue_38 (by decide) (fun c_2 => ?_) (fun c_2 => ?_)
      · have c_2 : 6 ≤ n := (nI_leI (a := 6) (b := n) (by omega) (by omega)).mp c_2
        obtain rfl : n = 6 := by omega
        refine lv_aload_n hx hb dX0_takeDue_97 rfl (lv_at hl 0 rfl) ?_
        refine va_get (D := D) (ci := 0) (v := .ref (a 4)) (C := RX0) (T := TX0) (N := 16) hx hb hts hi0 hown hK hP 0 rfl rfl 3 (by decide) (hts (.fieldLink RX0 21 "PledgedLoans$Books" "rest" "[I") (List.mem_of_getElem? (i := 1) rfl)) (fun _ h9 => h9) rfl dX0_takeDue_98 ?_
        refine lv_iload_n hx hb dX0_takeDue_101 rfl (lv_at hl 1 rfl) ?_
        refine lv_iconst (v := 0) hx hb dX0_takeDue_102 (by decide) ?_
        refine z_iast (j := mb) hx hb hK hP hD hS 4 0 rfl rfl dX0_takeDue_103 (by omega) (by decide) (bkW (cA 0) a (uB y1_34 3 mb 0)) rfl (fun H locs hP hD hS => ?_)
        exact z_vretM (w1 := bkW (cA 0) a (uB y1_34 3 mb 0)) hx hb hr hlocks dX0_takeDue_104 hP hS (by subst q_y1_34 q_y0_34 eM_1; rfl)
      · have c_2 : ¬ 6 ≤ n := fun h9 => c_2 ((nI_leI (a := 6) (b := n) (by omega) (by omega)).mpr h9)
        refine lv_iload hx hb dX0_takeDue_41 (lv_at hl 3 rfl) ?_
        refine lv_iload_n hx hb dX0_takeDue_43 rfl (lv_at hl 1 rfl) ?_
        refine z_E (va_runS (As := [.int (nI n), .int (nI mb)]) (rest := []) ⟨hx, hb, hml, hown, hts⟩ (zc_X0_place l D cA n mb (by omega) (by omega)) (va_cwS 2 hts gX0_takeDue_X0_place rfl rfl rfl zy_X0_place.2 ⟨Nat.le_of_ble_eq_true rfl, Nat.le_of_ble_eq_true rfl⟩) (z_preS hK z_P0 (z_D0 (A := fun _ => True))) rfl rfl hl.1 rfl (lv_room (Nat.le_of_ble_eq_true rfl)) dX0_takeDue_44 ⟨Nat.zero_le _, Nat.zero_le _⟩) rfl ?_
        refine z_top (y := nI (n * 6 + mb)) rfl ?_
        refine lv_istore (lv' := [(5, .int (nI (n * 6 + mb))), (0, .ref (a 0)), (1, .int (nI mb)), (2, .int y0_34), (4, .int (nI n))]) hx hb dX0_takeDue_47 hl (by decide) rfl (fun ls hl => ?_)
        refine lv_iload_n hx hb dX0_takeDue_49 rfl (lv_at hl 3 rfl) ?_
        refine lv_aload_n hx hb dX0_takeDue_50 rfl (lv_at hl 1 rfl) ?_
        refine va_get (D := D) (ci := 0) (v := .ref (a 3)) (C := RX0) (T := TX0) (N := 16) hx hb hts hi0 hown hK hP 0 rfl rfl 2 (by decide) (hts (.fieldLink RX0 18 "PledgedLoans$Books" "pledges" "[I") (List.mem_of_getElem? (i := 7) rfl)) (fun _ h9 => h9) rfl dX0_takeDue_51 ?_
        refine lv_iload hx hb dX0_takeDue_54 (lv_at hl 0 rfl) ?_
        refine z_iald (j := n * 6 + mb) hx hb hK hP 3 0 rfl rfl dX0_takeDue_56 (by omega) (by decide) ?_
        refine va_mmin hx hb (by rw [hml]; exact hl.1.symm) hown (hts (.methodLink RX0 65 Lib.Math.min.name) (List.mem_of_getElem? (i := 2) rfl)) (hts (.static Lib.Math.min.name) (List.mem_of_getElem? (i := 3) rfl)) (hts (.initialized "java/lang/Math") (List.mem_of_getElem? (i := 4) rfl)) (hts (.code Lib.Math.min.name Lib.Math.min.code 2 (some .int)) (List.mem_of_getElem? (i := 5) rfl)) (Nat.le_of_ble_eq_true rfl) (Nat.le_of_ble_eq_true rfl) (Nat.zero_le _) (Nat.zero_le _) dX0_takeDue_57 ?_
        refine z_top (y := zmin y0_34 (y1_34 2 (n * 6 + mb))) rfl ?_
        refine lv_istore (lv' := [(6, .int (zmin y0_34 (y1_34 2 (n * 6 + mb)))), (5, .int (nI (n * 6 + mb))), (0, .ref (a 0)), (1, .int (nI mb)), (2, .int y0_34), (4, .int (nI n))]) hx hb dX0_takeDue_60 hl (by decide) rfl (fun ls hl => ?_)
        refine lv_aload_n hx hb dX0_takeDue_62 rfl (lv_at hl 2 rfl) ?_
        refine va_get (D := D) (ci := 0) (v := .ref (a 1)) (C := RX0) (T := TX0) (N := 16) hx hb hts hi0 hown hK hP 0 rfl rfl 0 (by decide) (hts (.fieldLink RX0 9 "PledgedLoans$Books" "shares" "[I") (List.mem_of_getElem? (i := 6) rfl)) (fun _ h9 => h9) rfl dX0_takeDue_63 ?_
        refine lv_iload hx hb dX0_takeDue_66 (lv_at hl 5 rfl) ?_
        refine lv_dup2_11 hx hb dX0_takeDue_68 rfl rfl ?_
        refine z_iald (j := n) hx hb hK hP 1 0 rfl rfl dX0_takeDue_69 (by omega) (by decide) ?_
        refine lv_iload hx hb dX0_takeDue_70 (lv_at hl 0 rfl) ?_
        refine lv_isub hx hb dX0_takeDue_72 ?_
        refine z_iast (j := n) hx hb hK hP hD hS 1 0 rfl rfl dX0_takeDue_73 (by omega) (by decide) (bkW (cA 0) a (uB y1_34 0 n ((y1_34 0 n) - (zmin y0_34 (y1_34 2 (n * 6 + mb)))))) rfl (fun H locs hP hD hS => ?_)
        obtain ⟨M_3, eM_3⟩ : ∃ z9 : BK, z9 = uB y1_34 0 n ((y1_34 0 n) - (zmin y0_34 (y1_34 2 (n * 6 + mb)))) := ⟨_, rfl⟩
        rw [← eM_3] at hP hD
        refine lv_aload_n hx hb dX0_takeDue_74 rfl (lv_at hl 2 rfl) ?_
        refine va_get (D := D) (ci := 0) (v := .ref (a 3)) (C := RX0) (T := TX0) (N := 16) hx hb hts hi0 hown hK hP 0 rfl rfl 2 (by decide) (hts (.fieldLink RX0 18 "PledgedLoans$Books" "pledges" "[I") (List.mem_of_getElem? (i := 7) rfl)) (fun _ h9 => h9) rfl dX0_takeDue_75 ?_
        refine lv_iload hx hb dX0_takeDue_78 (lv_at hl 1 rfl) ?_
        refine lv_dup2_11 hx hb dX0_takeDue_80 rfl rfl ?_
        refine z_iald (j := n * 6 + mb) hx hb hK hP 3 0 rfl rfl dX0_takeDue_81 (by omega) (by decide) ?_
        refine lv_iload hx hb dX0_takeDue_82 (lv_at hl 0 rfl) ?_
        refine lv_isub hx hb dX0_takeDue_84 ?_
        refine z_iast (j := n * 6 + mb) hx hb hK hP hD hS 3 0 rfl rfl dX0_takeDue_85 (by omega) (by decide) (bkW (cA 0) a (uB M_3 2 (n * 6 + mb) ((M_3 2 (n * 6 + mb)) - (zmin y0_34 (y1_34 2 (n * 6 + mb)))))) rfl (fun H locs hP hD hS => ?_)
        obtain ⟨M_4, eM_4⟩ : ∃ z9 : BK, z9 = uB M_3 2 (n * 6 + mb) ((M_3 2 (n * 6 + mb)) - (zmin y0_34 (y1_34 2 (n * 6 + mb)))) := ⟨_, rfl⟩
        rw [← eM_4] at hP hD
        refine lv_iload_n hx hb dX0_takeDue_86 rfl (lv_at hl 4 rfl) ?_
        refine lv_iload hx hb dX0_takeDue_87 (lv_at hl 0 rfl) ?_
        refine lv_isub hx hb dX0_takeDue_89 ?_
        refine lv_istore_n (lv' := [(2, .int (y0_34 - (zmin y0_34 (y1_34 2 (n * 6 + mb))))), (6, .int (zmin y0_34 (y1_34 2 (n * 6 + mb)))), (5, .int (nI (n * 6 + mb))), (0, .ref (a 0)), (1, .int (nI mb)), (4, .int (nI n))]) hx hb dX0_takeDue_90 rfl hl (by decide) rfl (fun ls hl => ?_)
        refine lv_iinc (v := nI (n + 1)) (lv' := [(4, .int (nI (n + 1))), (2, .int (y0_34 - (zmin y0_34 (y1_34 2 (n * 6 + mb))))), (6, .int (zmin y0_34 (y1_34 2 (n * 6 + mb)))), (5, .int (nI (n * 6 + mb))), (0, .ref (a 0)), (1, .int (nI mb))]) hx hb dX0_takeDue_91 hl (k := 5) rfl (by rw [show (Int32.ofInt 1) = nI 1 from by decide]; exact nI_add n 1) (by decide) rfl (fun ls hl => ?_)
        refine lv_goto (tgt := 34) hx hb dX0_takeDue_94 (by decide) ?_
        exact ih_34 (n + 1) _ _ (by omega) (by omega) (by subst eM_4 eM_3 q_y1_34 q_y0_34 eM_1; rfl) (by subst eM_4 eM_3 q_y1_34 q_y0_34 eM_1; rfl) _ _ hP hD hS ls (lv_sub hl [4, 5, 1, 0] rfl)
  exact loop_34 _ 0 _ _ (by omega) (Nat.lt_succ_self _) rfl rfl _ _ hP hD hS ls (lv_sub hl [3, 4, 1, 0] rfl)

theorem zy_X0_endWeekOf : yX0_endWeekOf.cls = RX0 ∧ yX0_endWeekOf.cls ≠ "java/lang/invoke/MethodHandle" ∧ yX0_endWeekOf.cls ≠ "java/lang/invoke/VarHandle" ∧ (parseMethodDescriptor yX0_endWeekOf.desc).map (fun d => d.parameters.length) = some 1 := by decide +kernel
def f_X0_endWeekOf (B : BK) (mb : Nat) : Int32 × BK :=
  if (B 4 mb) ≤ (B 5 mb) then
    if ((uB (uB B 6 mb 0) 5 mb 0) 7 1) ≤ ((uB (uB B 6 mb 0) 5 mb 0) 6 mb) then
      let M_3 : BK := f_X0_takeDue (uB (uB B 6 mb 0) 5 mb 0) mb
      (1, M_3)
    else
      (0, uB (uB B 6 mb 0) 5 mb 0)
  else
    if ((uB (uB B 6 mb ((B 6 mb) + 1)) 5 mb 0) 7 1) ≤ ((uB (uB B 6 mb ((B 6 mb) + 1)) 5 mb 0) 6 mb) then
      let M_5 : BK := f_X0_takeDue (uB (uB B 6 mb ((B 6 mb) + 1)) 5 mb 0) mb
      (1, M_5)
    else
      (0, uB (uB B 6 mb ((B 6 mb) + 1)) 5 mb 0)

theorem zb_X0_endWeekOf (B : BK) (mb : Nat) : narrow .boolean (.int ((f_X0_endWeekOf B mb).1)) = .int ((f_X0_endWeekOf B mb).1) := by
  unfold f_X0_endWeekOf; repeat' split
  all_goals (first | rfl | (dsimp only; rfl))
set_option maxHeartbeats 4000000 in
set_option maxRecDepth 100000 in
theorem zc_X0_endWeekOf (l : Launch) (D : va_G) (cA : Nat → ClassId) (a : Nat → Nat) (B : BK) (mb : Nat) (hmb : mb < 6) : Met l yX0_endWeekOf wsX0_endWeekOf (zrm 3 71) (zPc D cA [.ref (a 0), .int (nI mb)] (bkW (cA 0) a B)) (zM D (bkW (cA 0) a B) (bkW (cA 0) a ((f_X0_endWeekOf B mb).2)) (some (.int ((f_X0_endWeekOf B mb).1)))) 0 0 (zfr (bkW (cA 0) a B)) := by
  refine Met.ofW (cc := cX0_endWeekOf) (maxL := 2) (ret := (some .boolean)) (by decide) rfl ?_
  intro p e s m args below meth c s₁ Bd hml hv
  obtain ⟨rfl, hP, hK, hD0⟩ := hv
  have hx := Bd.exec
  have hb := Bd.bytes
  have hr := Bd.returns
  have hts := atoms_spec (ws := wsX0_endWeekOf) Bd.pre
  have hown : s.vm.findClass RX0 = some m.cls := findClass_of_methodNamed Bd.named
  have hlocks := Bd.notSynchronized
  have hD := z_Dfr hD0
  have hS : va_S (zfr (bkW (cA 0) a B)) s.heap s.heap [] := va_S.rf
  have hi0 : ∀ w ∈ wsX00, w ∈ wsX0_endWeekOf := fun w h => List.mem_cons_of_mem _ (List.mem_append_right _ h)
  have hl := lv_entry ([.ref (a 0), .int (nI mb)]) (n := 2) (Nat.le_of_ble_eq_true rfl)
  rw [lg_entry_eq]
  generalize (lg_sl ([.ref (a 0), .int (nI mb)]) ++ List.replicate (2 - (lg_sl ([.ref (a 0), .int (nI mb)])).length) Slot.unset).toArray = ls at hl ⊢
  have hl : lv_has ls 2 [(0, .ref (a 0)), (1, .int (nI mb))] := hl
  refine lv_aload_n hx hb dX0_endWeekOf_0 rfl (lv_at hl 0 rfl) ?_
  refine va_get (D := D) (ci := 0) (v := .ref (a 7)) (C := RX0) (T := TX0) (N := 16) hx hb hts hi0 hown hK hP 0 rfl rfl 6 (by decide) (hts (.fieldLink RX0 30 "PledgedLoans$Books" "misses" "[I") (List.mem_of_getElem? (i := 1) rfl)) (fun _ h9 => h9) rfl dX0_endWeekOf_1 ?_
  refine lv_iload_n hx hb dX0_endWeekOf_4 rfl (lv_at hl 1 rfl) ?_
  refine lv_aload_n hx hb dX0_endWeekOf_5 rfl (lv_at hl 0 rfl) ?_
  refine va_get (D := D) (ci := 0) (v := .ref (a 6)) (C := RX0) (T := TX0) (N := 16) hx hb hts hi0 hown hK hP 0 rfl rfl 5 (by decide) (hts (.fieldLink RX0 27 "PledgedLoans$Books" "paid" "[I") (List.mem_of_getElem? (i := 2) rfl)) (fun _ h9 => h9) rfl dX0_endWeekOf_6 ?_
  refine lv_iload_n hx hb dX0_endWeekOf_9 rfl (lv_at hl 1 rfl) ?_
  refine z_iald (j := mb) hx hb hK hP 6 0 rfl rfl dX0_endWeekOf_10 (by omega) (by decide) ?_
  refine lv_aload_n hx hb dX0_endWeekOf_11 rfl (lv_at hl 0 rfl) ?_
  refine va_get (D := D) (ci := 0) (v := .ref (a 5)) (C := RX0) (T := TX0) (N := 16) hx hb hts hi0 hown hK hP 0 rfl rfl 4 (by decide) (hts (.fieldLink RX0 24 "PledgedLoans$Books" "part" "[I") (List.mem_of_getElem? (i := 3) rfl)) (fun _ h9 => h9) rfl dX0_endWeekOf_12 ?_
  refine lv_iload_n hx hb dX0_endWeekOf_15 rfl (lv_at hl 1 rfl) ?_
  refine z_iald (j := mb) hx hb hK hP 5 0 rfl rfl dX0_endWeekOf_16 (by omega) (by decide) ?_
  refine lv_icmp_ge (tgt := 31) hx hb dX0_endWeekOf_17 (by decide) (fun c_1 => ?_) (fun c_1 => ?_)
  · refine lv_iconst (v := 0) hx hb dX0_endWeekOf_31 (by decide) ?_
    refine z_iast (j := mb) hx hb hK hP hD hS 7 0 rfl rfl dX0_endWeekOf_32 (by omega) (by decide) (bkW (cA 0) a (uB B 6 mb 0)) rfl (fun H locs hP hD hS => ?_)
    refine lv_aload_n hx hb dX0_endWeekOf_33 rfl (lv_at hl 0 rfl) ?_
    refine va_get (D := D) (ci := 0) (v := .ref (a 6)) (C := RX0) (T := TX0) (N := 16) hx hb hts hi0 hown hK hP 0 rfl rfl 5 (by decide) (hts (.fieldLink RX0 27 "PledgedLoans$Books" "paid" "[I") (List.mem_of_getElem? (i := 2) rfl)) (fun _ h9 => h9) rfl dX0_endWeekOf_34 ?_
    refine lv_iload_n hx hb dX0_endWeekOf_37 rfl (lv_at hl 1 rfl) ?_
    refine lv_iconst (v := 0) hx hb dX0_endWeekOf_38 (by decide) ?_
    refine z_iast (j := mb) hx hb hK hP hD hS 6 0 rfl rfl dX0_endWeekOf_39 (by omega) (by decide) (bkW (cA 0) a (uB (uB B 6 mb 0) 5 mb 0)) rfl (fun H locs hP hD hS => ?_)
    refine lv_aload_n hx hb dX0_endWeekOf_40 rfl (lv_at hl 0 rfl) ?_
    refine va_get (D := D) (ci := 0) (v := .ref (a 7)) (C := RX0) (T := TX0) (N := 16) hx hb hts hi0 hown hK hP 0 rfl rfl 6 (by decide) (hts (.fieldLink RX0 30 "PledgedLoans$Books" "misses" "[I") (List.mem_of_getElem? (i := 1) rfl)) (fun _ h9 => h9) rfl dX0_endWeekOf_41 ?_
    refine lv_iload_n hx hb dX0_endWeekOf_44 rfl (lv_at hl 1 rfl) ?_
    refine z_iald (j := mb) hx hb hK hP 7 0 rfl rfl dX0_endWeekOf_45 (by omega) (by decide) ?_
    refine lv_aload_n hx hb dX0_endWeekOf_46 rfl (lv_at hl 0 rfl) ?_
    refine va_get (D := D) (ci := 0) (v := .ref (a 8)) (C := RX0) (T := TX0) (N := 16) hx hb hts hi0 hown hK hP 0 rfl rfl 7 (by decide) (hts (.fieldLink RX0 33 "PledgedLoans$Books" "settings" "[I") (List.mem_of_getElem? (i := 4) rfl)) (fun _ h9 => h9) rfl dX0_endWeekOf_47 ?_
    refine lv_iconst (v := 1) hx hb dX0_endWeekOf_50 (by decide) ?_
    refine z_iald (j := 1) hx hb hK hP 8 0 rfl rfl dX0_endWeekOf_51 (by omega) (by decide) ?_
    refine lv_icmp_ge (tgt := 57) hx hb dX0_endWeekOf_52 (by decide) (fun c_2 => ?_) (fun c_2 => ?_)
    · refine lv_aload_n hx hb dX0_endWeekOf_57 rfl (lv_at hl 0 rfl) ?_
      refine lv_iload_n hx hb dX0_endWeekOf_58 rfl (lv_at hl 1 rfl) ?_
      refine z_M (X := ([] : va_W)) (Z := ([] : va_W)) (va_runV (As := [.int (nI mb)]) (rest := []) ⟨hx, hb, hml, hown, hts⟩ (zc_X0_takeDue l D cA a (uB (uB B 6 mb 0) 5 mb 0) mb (by omega)) (cwV 1 hts gX0_endWeekOf_X0_takeDue rfl rfl rfl zy_X0_takeDue ⟨Nat.le_of_ble_eq_true rfl, Nat.le_of_ble_eq_true rfl⟩) (z_preV (ci := 0) hK hP hD rfl rfl) rfl rfl hl.1 rfl (lv_room (Nat.le_of_ble_eq_true rfl)) dX0_endWeekOf_59 ⟨Nat.zero_le _, Nat.zero_le _⟩) hP hD hS rfl rfl (fun H locs hP hD hS => ?_)
      have hP : va_P D vwCl (bkW (cA 0) a (f_X0_takeDue (uB (uB B 6 mb 0) 5 mb 0) mb)) H := hP
      have hD : va_D _ (bkW (cA 0) a (f_X0_takeDue (uB (uB B 6 mb 0) 5 mb 0) mb)) := hD
      obtain ⟨M_3, eM_3⟩ : ∃ z9 : BK, z9 = f_X0_takeDue (uB (uB B 6 mb 0) 5 mb 0) mb := ⟨_, rfl⟩
      rw [← eM_3] at hP hD
      refine lv_iconst (v := 1) hx hb dX0_endWeekOf_62 (by decide) ?_
      exact z_zretM (w1 := bkW (cA 0) a M_3) hx hb hr hlocks dX0_endWeekOf_63 hP hS rfl (by subst eM_3; simp only [f_X0_endWeekOf, if_pos c_1, if_pos c_2]) (by subst eM_3; simp only [f_X0_endWeekOf, if_pos c_1, if_pos c_2])
    · refine lv_iconst (v := 0) hx hb dX0_endWeekOf_55 (by decide) ?_
      exact z_zretM (w1 := bkW (cA 0) a (uB (uB B 6 mb 0) 5 mb 0)) hx hb hr hlocks dX0_endWeekOf_56 hP hS rfl (by simp only [f_X0_endWeekOf, if_pos c_1, if_neg c_2]) (by simp only [f_X0_endWeekOf, if_pos c_1, if_neg c_2])
  · refine lv_aload_n hx hb dX0_endWeekOf_20 rfl (lv_at hl 0 rfl) ?_
    refine va_get (D := D) (ci := 0) (v := .ref (a 7)) (C := RX0) (T := TX0) (N := 16) hx hb hts hi0 hown hK hP 0 rfl rfl 6 (by decide) (hts (.fieldLink RX0 30 "PledgedLoans$Books" "misses" "[I") (List.mem_of_getElem? (i := 1) rfl)) (fun _ h9 => h9) rfl dX0_endWeekOf_21 ?_
    refine lv_iload_n hx hb dX0_endWeekOf_24 rfl (lv_at hl 1 rfl) ?_
    refine z_iald (j := mb) hx hb hK hP 7 0 rfl rfl dX0_endWeekOf_25 (by omega) (by decide) ?_
    refine lv_iconst (v := 1) hx hb dX0_endWeekOf_26 (by decide) ?_
    refine lv_iadd hx hb dX0_endWeekOf_27 ?_
    refine lv_goto (tgt := 32) hx hb dX0_endWeekOf_28 (by decide) ?_
    refine z_iast (j := mb) hx hb hK hP hD hS 7 0 rfl rfl dX0_endWeekOf_32 (by omega) (by decide) (bkW (cA 0) a (uB B 6 mb ((B 6 mb) + 1))) rfl (fun H locs hP hD hS => ?_)
    refine lv_aload_n hx hb dX0_endWeekOf_33 rfl (lv_at hl 0 rfl) ?_
    refine va_get (D := D) (ci := 0) (v := .ref (a 6)) (C := RX0) (T := TX0) (N := 16) hx hb hts hi0 hown hK hP 0 rfl rfl 5 (by decide) (hts (.fieldLink RX0 27 "PledgedLoans$Books" "paid" "[I") (List.mem_of_getElem? (i := 2) rfl)) (fun _ h9 => h9) rfl dX0_endWeekOf_34 ?_
    refine lv_iload_n hx hb dX0_endWeekOf_37 rfl (lv_at hl 1 rfl) ?_
    refine lv_iconst (v := 0) hx hb dX0_endWeekOf_38 (by decide) ?_
    refine z_iast (j := mb) hx hb hK hP hD hS 6 0 rfl rfl dX0_endWeekOf_39 (by omega) (by decide) (bkW (cA 0) a (uB (uB B 6 mb ((B 6 mb) + 1)) 5 mb 0)) rfl (fun H locs hP hD hS => ?_)
    refine lv_aload_n hx hb dX0_endWeekOf_40 rfl (lv_at hl 0 rfl) ?_
    refine va_get (D := D) (ci := 0) (v := .ref (a 7)) (C := RX0) (T := TX0) (N := 16) hx hb hts hi0 hown hK hP 0 rfl rfl 6 (by decide) (hts (.fieldLink RX0 30 "PledgedLoans$Books" "misses" "[I") (List.mem_of_getElem? (i := 1) rfl)) (fun _ h9 => h9) rfl dX0_endWeekOf_41 ?_
    refine lv_iload_n hx hb dX0_endWeekOf_44 rfl (lv_at hl 1 rfl) ?_
    refine z_iald (j := mb) hx hb hK hP 7 0 rfl rfl dX0_endWeekOf_45 (by omega) (by decide) ?_
    refine lv_aload_n hx hb dX0_endWeekOf_46 rfl (lv_at hl 0 rfl) ?_
    refine va_get (D := D) (ci := 0) (v := .ref (a 8)) (C := RX0) (T := TX0) (N := 16) hx hb hts hi0 hown hK hP 0 rfl rfl 7 (by decide) (hts (.fieldLink RX0 33 "PledgedLoans$Books" "settings" "[I") (List.mem_of_getElem? (i := 4) rfl)) (fun _ h9 => h9) rfl dX0_endWeekOf_47 ?_
    refine lv_iconst (v := 1) hx hb dX0_endWeekOf_50 (by decide) ?_
    refine z_iald (j := 1) hx hb hK hP 8 0 rfl rfl dX0_endWeekOf_51 (by omega) (by decide) ?_
    refine lv_icmp_ge (tgt := 57) hx hb dX0_endWeekOf_52 (by decide) (fun c_4 => ?_) (fun c_4 => ?_)
    · refine lv_aload_n hx hb dX0_endWeekOf_57 rfl (lv_at hl 0 rfl) ?_
      refine lv_iload_n hx hb dX0_endWeekOf_58 rfl (lv_at hl 1 rfl) ?_
      refine z_M (X := ([] : va_W)) (Z := ([] : va_W)) (va_runV (As := [.int (nI mb)]) (rest := []) ⟨hx, hb, hml, hown, hts⟩ (zc_X0_takeDue l D cA a (uB (uB B 6 mb ((B 6 mb) + 1)) 5 mb 0) mb (by omega)) (cwV 1 hts gX0_endWeekOf_X0_takeDue rfl rfl rfl zy_X0_takeDue ⟨Nat.le_of_ble_eq_true rfl, Nat.le_of_ble_eq_true rfl⟩) (z_preV (ci := 0) hK hP hD rfl rfl) rfl rfl hl.1 rfl (lv_room (Nat.le_of_ble_eq_true rfl)) dX0_endWeekOf_59 ⟨Nat.zero_le _, Nat.zero_le _⟩) hP hD hS rfl rfl (fun H locs hP hD hS => ?_)
      have hP : va_P D vwCl (bkW (cA 0) a (f_X0_takeDue (uB (uB B 6 mb ((B 6 mb) + 1)) 5 mb 0) mb)) H := hP
      have hD : va_D _ (bkW (cA 0) a (f_X0_takeDue (uB (uB B 6 mb ((B 6 mb) + 1)) 5 mb 0) mb)) := hD
      obtain ⟨M_5, eM_5⟩ : ∃ z9 : BK, z9 = f_X0_takeDue (uB (uB B 6 mb ((B 6 mb) + 1)) 5 mb 0) mb := ⟨_, rfl⟩
      rw [← eM_5] at hP hD
      refine lv_iconst (v := 1) hx hb dX0_endWeekOf_62 (by decide) ?_
      exact z_zretM (w1 := bkW (cA 0) a M_5) hx hb hr hlocks dX0_endWeekOf_63 hP hS rfl (by subst eM_5; simp only [f_X0_endWeekOf, if_neg c_1, if_pos c_4]) (by subst eM_5; simp only [f_X0_endWeekOf, if_neg c_1, if_pos c_4])
    · refine lv_iconst (v := 0) hx hb dX0_endWeekOf_55 (by decide) ?_
      exact z_zretM (w1 := bkW (cA 0) a (uB (uB B 6 mb ((B 6 mb) + 1)) 5 mb 0)) hx hb hr hlocks dX0_endWeekOf_56 hP hS rfl (by simp only [f_X0_endWeekOf, if_neg c_1, if_neg c_4]) (by simp only [f_X0_endWeekOf, if_neg c_1, if_neg c_4])

theorem zy_X0_endWeek : yX0_endWeek.cls = RX0 ∧ yX0_endWeek.cls ≠ "java/lang/invoke/MethodHandle" ∧ yX0_endWeek.cls ≠ "java/lang/invoke/VarHandle" ∧ (parseMethodDescriptor yX0_endWeek.desc).map (fun d => d.parameters.length) = some 0 := by decide +kernel
def f_X0_endWeek_4 (B : BK) (i0 : Int32) (i1 : BK) : Nat → Int32 × BK
  | 0 => (i0, i1)
  | n + 1 =>
    let y0_4 : Int32 := (f_X0_endWeek_4 B i0 i1 n).1
    let y1_4 : BK := (f_X0_endWeek_4 B i0 i1 n).2
    if (f_X0_hasLoan y1_4 n) = 0 then
      (y0_4, y1_4)
    else
      let M_3 : BK := (f_X0_endWeekOf y1_4 n).2
      if ((f_X0_endWeekOf y1_4 n).1) = 0 then
        (y0_4, M_3)
      else
        (y0_4 + 1, M_3)
def f_X0_endWeek (B : BK) : Int32 × BK :=
  let y0_4 : Int32 := (f_X0_endWeek_4 B 0 B 6).1
  let y1_4 : BK := (f_X0_endWeek_4 B 0 B 6).2
  let M_5 : BK := uB (uB y1_4 8 4 ((y1_4 8 4) + 1)) 8 3 (((uB y1_4 8 4 ((y1_4 8 4) + 1)) 8 3) + y0_4)
  (y0_4, M_5)

set_option maxHeartbeats 4000000 in
set_option maxRecDepth 100000 in
theorem zc_X0_endWeek (l : Launch) (D : va_G) (cA : Nat → ClassId) (a : Nat → Nat) (B : BK)  : Met l yX0_endWeek wsX0_endWeek (zrm 4 92) (zPc D cA [.ref (a 0)] (bkW (cA 0) a B)) (zM D (bkW (cA 0) a B) (bkW (cA 0) a ((f_X0_endWeek B).2)) (some (.int ((f_X0_endWeek B).1)))) 0 0 (zfr (bkW (cA 0) a B)) := by
  refine Met.ofW (cc := cX0_endWeek) (maxL := 3) (ret := (some .int)) (by decide) rfl ?_
  intro p e s m args below meth c s₁ Bd hml hv
  obtain ⟨rfl, hP, hK, hD0⟩ := hv
  have hx := Bd.exec
  have hb := Bd.bytes
  have hr := Bd.returns
  have hts := atoms_spec (ws := wsX0_endWeek) Bd.pre
  have hown : s.vm.findClass RX0 = some m.cls := findClass_of_methodNamed Bd.named
  have hlocks := Bd.notSynchronized
  have hD := z_Dfr hD0
  have hS : va_S (zfr (bkW (cA 0) a B)) s.heap s.heap [] := va_S.rf
  have hi0 : ∀ w ∈ wsX00, w ∈ wsX0_endWeek := fun w h => List.mem_cons_of_mem _ (List.mem_append_right _ h)
  have hl := lv_entry ([.ref (a 0)]) (n := 3) (Nat.le_of_ble_eq_true rfl)
  rw [lg_entry_eq]
  generalize (lg_sl ([.ref (a 0)]) ++ List.replicate (3 - (lg_sl ([.ref (a 0)])).length) Slot.unset).toArray = ls at hl ⊢
  have hl : lv_has ls 3 [(0, .ref (a 0))] := hl
  refine lv_iconst (v := 0) hx hb dX0_endWeek_0 (by decide) ?_
  refine lv_istore_n (lv' := [(1, .int 0), (0, .ref (a 0))]) hx hb dX0_endWeek_1 rfl hl (by decide) rfl (fun ls hl => ?_)
  refine lv_iconst (v := 0) hx hb dX0_endWeek_2 (by decide) ?_
  refine lv_istore_n (lv' := [(2, .int 0), (1, .int 0), (0, .ref (a 0))]) hx hb dX0_endWeek_3 rfl hl (by decide) rfl (fun ls hl => ?_)
  have loop_4 : ∀ (kk : Nat) (n : Nat) (y0_4 : Int32) (y1_4 : BK), n ≤ 6 → 6 - n < kk → y0_4 = (f_X0_endWeek_4 B 0 B n).1 → y1_4 = (f_X0_endWeek_4 B 0 B n).2 → ∀ (H : Heap) (locs : List Loc), va_P D vwCl (bkW (cA 0) a y1_4) H → va_D (zfr (bkW (cA 0) a B)) (bkW (cA 0) a y1_4) → va_S (zfr (bkW (cA 0) a B)) s.heap H locs → ∀ (ls : Array Slot), lv_has ls 3 [(0, .ref (a 0)), (1, .int y0_4), (2, .int (nI n))] → W p l e (headSpec wsX0_endWeek (zrm 4 92)).room s m ([.ref (a 0)] : List Value).toArray below meth c H locs 0 0 (MQ below (zM D (bkW (cA 0) a B) (bkW (cA 0) a ((f_X0_endWeek B).2)) (some (.int ((f_X0_endWeek B).1)))) ([.ref (a 0)] : List Value).toArray s 0 0 (zfr (bkW (cA 0) a B))) (F0 m 4 ls []) := by
    intro kk
    induction kk with
    | zero => intro n y0_4 y1_4 _ h9; exact absurd h9 (Nat.not_lt_zero _)
    | succ kk ih_4 =>
      intro n y0_4 y1_4 hn_4 hm_4 q_y0_4 q_y1_4 H locs hP hD hS ls hl
      refine lv_iload_n hx hb dX0_endWeek_4 rfl (lv_at hl 2 rfl) ?_
      refine lv_bipush (v := 6) hx hb dX0_endWeek_5 (by decide) ?_
      refine lv_icmp_ge (tgt := 35) hx hb dX0_endWeek_7 (by decide) (fun c_1 => ?_) (fun c_1 => ?_)
      · have c_1 : 6 ≤ n := (nI_leI (a := 6) (b := n) (by omega) (by omega)).mp c_1
        obtain rfl : n = 6 := by omega
        refine lv_aload_n hx hb dX0_endWeek_35 rfl (lv_at hl 0 rfl) ?_
        refine lv_dup hx hb dX0_endWeek_36 rfl ?_
        refine va_get (D := D) (ci := 0) (v := .int (y1_4 8 4)) (C := RX0) (T := TX0) (N := 16) hx hb hts hi0 hown hK hP 0 rfl rfl 12 (by decide) (hts (.fieldLink RX0 53 "PledgedLoans$Books" "weeksEnded" "I") (List.mem_of_getElem? (i := 1) rfl)) (fun _ h9 => h9) rfl dX0_endWeek_37 ?_
        refine lv_iconst (v := 1) hx hb dX0_endWeek_40 (by decide) ?_
        refine lv_iadd hx hb dX0_endWeek_41 ?_
        refine va_put (D := D) (ci := 0) (v := .int ((y1_4 8 4) + 1)) (ty := .int) (C := RX0) (T := TX0) (N := 16) hx hb hts hi0 tyX0 tyX0_ok nmX0 hown hK hP hD hS 0 rfl rfl 12 (by decide) (hts (.fieldLink RX0 53 "PledgedLoans$Books" "weeksEnded" "I") (List.mem_of_getElem? (i := 1) rfl)) (fun _ h9 => h9) rfl (by decide +kernel) rfl rfl (Nat.le_of_ble_eq_true rfl) dX0_endWeek_42 (fun H locs hP hD hS => ?_)
        have hP : va_P D vwCl (bkW (cA 0) a (uB y1_4 8 4 ((y1_4 8 4) + 1))) H := hP
        have hD : va_D _ (bkW (cA 0) a (uB y1_4 8 4 ((y1_4 8 4) + 1))) := hD
        refine lv_aload_n hx hb dX0_endWeek_45 rfl (lv_at hl 0 rfl) ?_
        refine lv_dup hx hb dX0_endWeek_46 rfl ?_
        refine va_get (D := D) (ci := 0) (v := .int ((uB y1_4 8 4 ((y1_4 8 4) + 1)) 8 3)) (C := RX0) (T := TX0) (N := 16) hx hb hts hi0 hown hK hP 0 rfl rfl 11 (by decide) (hts (.fieldLink RX0 50 "PledgedLoans$Books" "loansFallenDue" "I") (List.mem_of_getElem? (i := 2) rfl)) (fun _ h9 => h9) rfl dX0_endWeek_47 ?_
        refine lv_iload_n hx hb dX0_endWeek_50 rfl (lv_at hl 1 rfl) ?_
        refine lv_iadd hx hb dX0_endWeek_51 ?_
        refine va_put (D := D) (ci := 0) (v := .int (((uB y1_4 8 4 ((y1_4 8 4) + 1)) 8 3) + y0_4)) (ty := .int) (C := RX0) (T := TX0) (N := 16) hx hb hts hi0 tyX0 tyX0_ok nmX0 hown hK hP hD hS 0 rfl rfl 11 (by decide) (hts (.fieldLink RX0 50 "PledgedLoans$Books" "loansFallenDue" "I") (List.mem_of_getElem? (i := 2) rfl)) (fun _ h9 => h9) rfl (by decide +kernel) rfl rfl (Nat.le_of_ble_eq_true rfl) dX0_endWeek_52 (fun H locs hP hD hS => ?_)
        have hP : va_P D vwCl (bkW (cA 0) a (uB (uB y1_4 8 4 ((y1_4 8 4) + 1)) 8 3 (((uB y1_4 8 4 ((y1_4 8 4) + 1)) 8 3) + y0_4))) H := hP
        have hD : va_D _ (bkW (cA 0) a (uB (uB y1_4 8 4 ((y1_4 8 4) + 1)) 8 3 (((uB y1_4 8 4 ((y1_4 8 4) + 1)) 8 3) + y0_4))) := hD
        obtain ⟨M_2, eM_2⟩ : ∃ z9 : BK, z9 = uB (uB y1_4 8 4 ((y1_4 8 4) + 1)) 8 3 (((uB y1_4 8 4 ((y1_4 8 4) + 1)) 8 3) + y0_4) := ⟨_, rfl⟩
        rw [← eM_2] at hP hD
        refine lv_iload_n hx hb dX0_endWeek_55 rfl (lv_at hl 1 rfl) ?_
        exact z_iretM (w1 := bkW (cA 0) a M_2) hx hb hr hlocks dX0_endWeek_56 hP hS (by subst eM_2 q_y1_4 q_y0_4; rfl) (by subst eM_2 q_y1_4 q_y0_4; rfl)
      · have c_1 : ¬ 6 ≤ n := fun h9 => c_1 ((nI_leI (a := 6) (b := n) (by omega) (by omega)).mpr h9)
        refine lv_aload_n hx hb dX0_endWeek_10 rfl (lv_at hl 0 rfl) ?_
        refine lv_iload_n hx hb dX0_endWeek_11 rfl (lv_at hl 2 rfl) ?_
        refine z_E (va_runV (As := [.int (nI n)]) (rest := []) ⟨hx, hb, hml, hown, hts⟩ (zc_X0_hasLoan l D cA a y1_4 n (by omega)) (cwV 1 hts gX0_endWeek_X0_hasLoan rfl rfl rfl zy_X0_hasLoan ⟨Nat.le_of_ble_eq_true rfl, Nat.le_of_ble_eq_true rfl⟩) (z_preV (ci := 0) hK hP hD rfl rfl) rfl rfl hl.1 rfl (lv_room (Nat.le_of_ble_eq_true rfl)) dX0_endWeek_12 ⟨Nat.zero_le _, Nat.zero_le _⟩) rfl ?_
        refine lv_if_eq (tgt := 29) hx hb dX0_endWeek_15 (by decide) (fun c_3 => ?_) (fun c_3 => ?_)
        · refine lv_iinc (v := nI (n + 1)) (lv' := [(2, .int (nI (n + 1))), (0, .ref (a 0)), (1, .int y0_4)]) hx hb dX0_endWeek_29 hl (k := 2) rfl (by rw [show (Int32.ofInt 1) = nI 1 from by decide]; exact nI_add n 1) (by decide) rfl (fun ls hl => ?_)
          refine lv_goto (tgt := 4) hx hb dX0_endWeek_32 (by decide) ?_
          exact ih_4 (n + 1) _ _ (by omega) (by omega) (by subst q_y1_4 q_y0_4; simp only [f_X0_endWeek_4, if_pos c_3]) (by subst q_y1_4 q_y0_4; simp only [f_X0_endWeek_4, if_pos c_3]) _ _ hP hD hS ls (lv_sub hl [1, 2, 0] rfl)
        · refine lv_aload_n hx hb dX0_endWeek_18 rfl (lv_at hl 0 rfl) ?_
          refine lv_iload_n hx hb dX0_endWeek_19 rfl (lv_at hl 2 rfl) ?_
          refine z_M (X := ([] : va_W)) (Z := ([] : va_W)) (va_runV (As := [.int (nI n)]) (rest := []) ⟨hx, hb, hml, hown, hts⟩ (zc_X0_endWeekOf l D cA a y1_4 n (by omega)) (cwV 1 hts gX0_endWeek_X0_endWeekOf rfl rfl rfl zy_X0_endWeekOf ⟨Nat.le_of_ble_eq_true rfl, Nat.le_of_ble_eq_true rfl⟩) (z_preV (ci := 0) hK hP hD rfl rfl) rfl rfl hl.1 rfl (lv_room (Nat.le_of_ble_eq_true rfl)) dX0_endWeek_20 ⟨Nat.zero_le _, Nat.zero_le _⟩) hP hD hS rfl rfl (fun H locs hP hD hS => ?_)
          have hP : va_P D vwCl (bkW (cA 0) a ((f_X0_endWeekOf y1_4 n).2)) H := hP
          have hD : va_D _ (bkW (cA 0) a ((f_X0_endWeekOf y1_4 n).2)) := hD
          obtain ⟨M_4, eM_4⟩ : ∃ z9 : BK, z9 = (f_X0_endWeekOf y1_4 n).2 := ⟨_, rfl⟩
          rw [← eM_4] at hP hD
          refine lv_if_eq (tgt := 29) hx hb dX0_endWeek_23 (by decide) (fun c_5 => ?_) (fun c_5 => ?_)
          · refine lv_iinc (v := nI (n + 1)) (lv' := [(2, .int (nI (n + 1))), (0, .ref (a 0)), (1, .int y0_4)]) hx hb dX0_endWeek_29 hl (k := 2) rfl (by rw [show (Int32.ofInt 1) = nI 1 from by decide]; exact nI_add n 1) (by decide) rfl (fun ls hl => ?_)
            refine lv_goto (tgt := 4) hx hb dX0_endWeek_32 (by decide) ?_
            exact ih_4 (n + 1) _ _ (by omega) (by omega) (by subst eM_4 q_y1_4 q_y0_4; simp only [f_X0_endWeek_4, if_neg c_3, if_pos c_5]) (by subst eM_4 q_y1_4 q_y0_4; simp only [f_X0_endWeek_4, if_neg c_3, if_pos c_5]) _ _ hP hD hS ls (lv_sub hl [1, 2, 0] rfl)
          · refine lv_iinc (v := y0_4 + 1) (lv' := [(1, .int (y0_4 + 1)), (0, .ref (a 0)), (2, .int (nI n))]) hx hb dX0_endWeek_26 hl (k := 1) rfl (by rfl) (by decide) rfl (fun ls hl => ?_)
            refine lv_iinc (v := nI (n + 1)) (lv' := [(2, .int (nI (n + 1))), (1, .int (y0_4 + 1)), (0, .ref (a 0))]) hx hb dX0_endWeek_29 hl (k := 2) rfl (by rw [show (Int32.ofInt 1) = nI 1 from by decide]; exact nI_add n 1) (by decide) rfl (fun ls hl => ?_)
            refine lv_goto (tgt := 4) hx hb dX0_endWeek_32 (by decide) ?_
            exact ih_4 (n + 1) _ _ (by omega) (by omega) (by subst eM_4 q_y1_4 q_y0_4; simp only [f_X0_endWeek_4, if_neg c_3, if_neg c_5]) (by subst eM_4 q_y1_4 q_y0_4; simp only [f_X0_endWeek_4, if_neg c_3, if_neg c_5]) _ _ hP hD hS ls (lv_sub hl [2, 1, 0] rfl)
  exact loop_4 _ 0 _ _ (by omega) (Nat.lt_succ_self _) rfl rfl _ _ hP hD hS ls (lv_sub hl [2, 1, 0] rfl)

theorem zy_X0_canAddDays : yX0_canAddDays.cls = RX0 ∧ yX0_canAddDays.cls ≠ "java/lang/invoke/MethodHandle" ∧ yX0_canAddDays.cls ≠ "java/lang/invoke/VarHandle" ∧ (parseMethodDescriptor yX0_canAddDays.desc).map (fun d => d.parameters.length) = some 1 := by decide +kernel
def f_X0_canAddDays_16 (B : BK) (dd : Int32) : Nat → Nat → Int32
  | 0, q => 0
  | k + 1, q =>
    if 6 ≤ q then
      1
    else
      if (((B 1 q).toInt64) + (((B 0 q).toInt64) * ((dd).toInt64))) ≤ (100000000) then
        f_X0_canAddDays_16 B dd k (q + 1)
      else
        0
def f_X0_canAddDays (B : BK) (dd : Int32) : Int32 :=
  if ((B 8 5) + dd) ≤ 9999 then
    f_X0_canAddDays_16 B dd 8 0
  else
    0

theorem zb_X0_canAddDays (B : BK) (dd : Int32) : narrow .boolean (.int (f_X0_canAddDays B dd)) = .int (f_X0_canAddDays B dd) := by
  have h : ∀ (k q : Nat), narrow .boolean (.int (f_X0_canAddDays_16 B dd k q)) = .int (f_X0_canAddDays_16 B dd k q) := by
    intro k
    induction k with
    | zero => intro q; rfl
    | succ k ih =>
      intro q; unfold f_X0_canAddDays_16; repeat' split
      all_goals (first | rfl | exact ih _)
  unfold f_X0_canAddDays; split
  · exact h _ _
  · rfl
set_option maxHeartbeats 4000000 in
set_option maxRecDepth 100000 in
theorem zc_X0_canAddDays (l : Launch) (D : va_G) (cA : Nat → ClassId) (a : Nat → Nat) (B : BK) (dd : Int32)  : Met l yX0_canAddDays wsX0_canAddDays (zrm 0 0) (zPc D cA [.ref (a 0), .int dd] (bkW (cA 0) a B)) (zE (some (.int (f_X0_canAddDays B dd)))) 0 0 (fun _ => False) := by
  refine Met.ofW (cc := cX0_canAddDays) (maxL := 3) (ret := (some .boolean)) (by decide) rfl ?_
  intro p e s m args below meth c s₁ Bd hml hv
  obtain ⟨rfl, hP, hK, hD0⟩ := hv
  have hx := Bd.exec
  have hb := Bd.bytes
  have hr := Bd.returns
  have hts := atoms_spec (ws := wsX0_canAddDays) Bd.pre
  have hown : s.vm.findClass RX0 = some m.cls := findClass_of_methodNamed Bd.named
  have hlocks := Bd.notSynchronized
  have hD := z_Dfr hD0
  have hS : va_S (zfr (bkW (cA 0) a B)) s.heap s.heap [] := va_S.rf
  have hi0 : ∀ w ∈ wsX00, w ∈ wsX0_canAddDays := fun w h => List.mem_cons_of_mem _ (List.mem_append_right _ h)
  have hl := lv_entry ([.ref (a 0), .int dd]) (n := 3) (Nat.le_of_ble_eq_true rfl)
  rw [lg_entry_eq]
  generalize (lg_sl ([.ref (a 0), .int dd]) ++ List.replicate (3 - (lg_sl ([.ref (a 0), .int dd])).length) Slot.unset).toArray = ls at hl ⊢
  have hl : lv_has ls 3 [(0, .ref (a 0)), (1, .int dd)] := hl
  refine lv_aload_n hx hb dX0_canAddDays_0 rfl (lv_at hl 0 rfl) ?_
  refine va_get (D := D) (ci := 0) (v := .int (B 8 5)) (C := RX0) (T := TX0) (N := 16) hx hb hts hi0 hown hK hP 0 rfl rfl 13 (by decide) (hts (.fieldLink RX0 56 "PledgedLoans$Books" "day" "I") (List.mem_of_getElem? (i := 1) rfl)) (fun _ h9 => h9) rfl dX0_canAddDays_1 ?_
  refine lv_iload_n hx hb dX0_canAddDays_4 rfl (lv_at hl 1 rfl) ?_
  refine lv_iadd hx hb dX0_canAddDays_5 ?_
  refine lv_sipush (v := 9999) hx hb dX0_canAddDays_6 (by decide) ?_
  refine lv_icmp_le (tgt := 14) hx hb dX0_canAddDays_9 (by decide) (fun c_1 => ?_) (fun c_1 => ?_)
  · refine lv_iconst (v := 0) hx hb dX0_canAddDays_14 (by decide) ?_
    refine lv_istore_n (lv' := [(2, .int 0), (0, .ref (a 0)), (1, .int dd)]) hx hb dX0_canAddDays_15 rfl hl (by decide) rfl (fun ls hl => ?_)
    have loop_16 : ∀ (kk : Nat) (q : Nat), 7 - q < kk → q < 7 → f_X0_canAddDays B dd = f_X0_canAddDays_16 B dd kk q → ∀ (ls : Array Slot), lv_has ls 3 [(0, .ref (a 0)), (1, .int dd), (2, .int (nI q))] → W p l e (headSpec wsX0_canAddDays (zrm 0 0)).room s m ([.ref (a 0), .int dd] : List Value).toArray below meth c s.heap [] 0 0 (MQ below (zE (some (.int (f_X0_canAddDays B dd)))) ([.ref (a 0), .int dd] : List Value).toArray s 0 0 (fun _ => False)) (F0 m 16 ls []) := by
      intro kk
      induction kk with
      | zero => intro q h9; exact absurd h9 (Nat.not_lt_zero _)
      | succ kk ih_16 =>
        intro q hm_16 hi0_16 hres_16 ls hl
        refine lv_iload_n hx hb dX0_canAddDays_16 rfl (lv_at hl 2 rfl) ?_
        refine lv_bipush (v := 6) hx hb dX0_canAddDays_17 (by decide) ?_
        refine lv_icmp_ge (tgt := 55) hx hb dX0_canAddDays_19 (by decide) (fun c_2 => ?_) (fun c_2 => ?_)
        · have c_2 : 6 ≤ q := (nI_leI (a := 6) (b := q) (by omega) (by omega)).mp c_2
          refine lv_iconst (v := 1) hx hb dX0_canAddDays_55 (by decide) ?_
          exact z_zretE hx hb hr hlocks dX0_canAddDays_56 rfl (by rw [hres_16]; simp only [f_X0_canAddDays_16, if_pos c_2])
        · have c_2 : ¬ 6 ≤ q := fun h9 => c_2 ((nI_leI (a := 6) (b := q) (by omega) (by omega)).mpr h9)
          refine lv_aload_n hx hb dX0_canAddDays_22 rfl (lv_at hl 0 rfl) ?_
          refine va_get (D := D) (ci := 0) (v := .ref (a 2)) (C := RX0) (T := TX0) (N := 16) hx hb hts hi0 hown hK hP 0 rfl rfl 1 (by decide) (hts (.fieldLink RX0 15 "PledgedLoans$Books" "shareDays" "[I") (List.mem_of_getElem? (i := 2) rfl)) (fun _ h9 => h9) rfl dX0_canAddDays_23 ?_
          refine lv_iload_n hx hb dX0_canAddDays_26 rfl (lv_at hl 2 rfl) ?_
          refine z_iald (j := q) hx hb hK hP 2 0 rfl rfl dX0_canAddDays_27 (by omega) (by decide) ?_
          refine lv_i2l (v := (B 1 q).toInt64) hx hb dX0_canAddDays_28 rfl ?_
          refine lv_aload_n hx hb dX0_canAddDays_29 rfl (lv_at hl 0 rfl) ?_
          refine va_get (D := D) (ci := 0) (v := .ref (a 1)) (C := RX0) (T := TX0) (N := 16) hx hb hts hi0 hown hK hP 0 rfl rfl 0 (by decide) (hts (.fieldLink RX0 9 "PledgedLoans$Books" "shares" "[I") (List.mem_of_getElem? (i := 3) rfl)) (fun _ h9 => h9) rfl dX0_canAddDays_30 ?_
          refine lv_iload_n hx hb dX0_canAddDays_33 rfl (lv_at hl 2 rfl) ?_
          refine z_iald (j := q) hx hb hK hP 1 0 rfl rfl dX0_canAddDays_34 (by omega) (by decide) ?_
          refine lv_i2l (v := (B 0 q).toInt64) hx hb dX0_canAddDays_35 rfl ?_
          refine lv_iload_n hx hb dX0_canAddDays_36 rfl (lv_at hl 1 rfl) ?_
          refine lv_i2l (v := (dd).toInt64) hx hb dX0_canAddDays_37 rfl ?_
          refine lv_lmul hx hb dX0_canAddDays_38 ?_
          refine lv_ladd hx hb dX0_canAddDays_39 ?_
          refine lv_ldc2 hx hb hown (hts (.constantLong RX0 131 (100000000)) (List.mem_of_getElem? (i := 4) rfl)) dX0_canAddDays_40 ?_
          refine W.lcmp hx hb dX0_canAddDays_43 ?_
          refine lv_if_le (tgt := 49) hx hb dX0_canAddDays_44 (by decide) (fun c_3 => ?_) (fun c_3 => ?_)
          · have c_3 : (((B 1 q).toInt64) + (((B 0 q).toInt64) * ((dd).toInt64))) ≤ (100000000) := (lg_cmp_le _ _).mp c_3
            refine lv_iinc (v := nI (q + 1)) (lv' := [(2, .int (nI (q + 1))), (0, .ref (a 0)), (1, .int dd)]) hx hb dX0_canAddDays_49 hl (k := 2) rfl (by rw [show (Int32.ofInt 1) = nI 1 from by decide]; exact nI_add q 1) (by decide) rfl (fun ls hl => ?_)
            refine lv_goto (tgt := 16) hx hb dX0_canAddDays_52 (by decide) ?_
            exact ih_16 (q + 1) (by omega) (by omega) (by rw [hres_16]; simp only [f_X0_canAddDays_16, if_neg c_2, if_pos c_3]) ls (lv_sub hl [1, 2, 0] rfl)
          · have c_3 : ¬ (((B 1 q).toInt64) + (((B 0 q).toInt64) * ((dd).toInt64))) ≤ (100000000) := fun h9 => c_3 ((lg_cmp_le _ _).mpr h9)
            refine lv_iconst (v := 0) hx hb dX0_canAddDays_47 (by decide) ?_
            exact z_zretE hx hb hr hlocks dX0_canAddDays_48 rfl (by rw [hres_16]; simp only [f_X0_canAddDays_16, if_neg c_2, if_neg c_3])
    exact loop_16 8 0 (by omega) (by omega) (by simp only [f_X0_canAddDays, if_pos c_1]) ls (lv_sub hl [1, 2, 0] rfl)
  · refine lv_iconst (v := 0) hx hb dX0_canAddDays_12 (by decide) ?_
    exact z_zretE hx hb hr hlocks dX0_canAddDays_13 rfl (by simp only [f_X0_canAddDays, if_neg c_1])

theorem zy_X0_addDays : yX0_addDays.cls = RX0 ∧ yX0_addDays.cls ≠ "java/lang/invoke/MethodHandle" ∧ yX0_addDays.cls ≠ "java/lang/invoke/VarHandle" ∧ (parseMethodDescriptor yX0_addDays.desc).map (fun d => d.parameters.length) = some 1 := by decide +kernel
def f_X0_addDays_2 (B : BK) (dd : Int32) (i0 : BK) : Nat → BK
  | 0 => i0
  | n + 1 =>
    let y0_2 : BK := f_X0_addDays_2 B dd i0 n
    uB y0_2 1 n ((y0_2 1 n) + ((y0_2 0 n) * dd))
def f_X0_addDays (B : BK) (dd : Int32) : Int32 × BK :=
  let y0_2 : BK := f_X0_addDays_2 B dd B 6
  ((uB y0_2 8 5 ((y0_2 8 5) + dd)) 8 5, uB y0_2 8 5 ((y0_2 8 5) + dd))

set_option maxHeartbeats 4000000 in
set_option maxRecDepth 100000 in
theorem zc_X0_addDays (l : Launch) (D : va_G) (cA : Nat → ClassId) (a : Nat → Nat) (B : BK) (dd : Int32)  : Met l yX0_addDays wsX0_addDays (zrm 0 0) (zPc D cA [.ref (a 0), .int dd] (bkW (cA 0) a B)) (zM D (bkW (cA 0) a B) (bkW (cA 0) a ((f_X0_addDays B dd).2)) (some (.int ((f_X0_addDays B dd).1)))) 0 0 (zfr (bkW (cA 0) a B)) := by
  refine Met.ofW (cc := cX0_addDays) (maxL := 3) (ret := (some .int)) (by decide) rfl ?_
  intro p e s m args below meth c s₁ Bd hml hv
  obtain ⟨rfl, hP, hK, hD0⟩ := hv
  have hx := Bd.exec
  have hb := Bd.bytes
  have hr := Bd.returns
  have hts := atoms_spec (ws := wsX0_addDays) Bd.pre
  have hown : s.vm.findClass RX0 = some m.cls := findClass_of_methodNamed Bd.named
  have hlocks := Bd.notSynchronized
  have hD := z_Dfr hD0
  have hS : va_S (zfr (bkW (cA 0) a B)) s.heap s.heap [] := va_S.rf
  have hi0 : ∀ w ∈ wsX00, w ∈ wsX0_addDays := fun w h => List.mem_cons_of_mem _ (List.mem_append_right _ h)
  have hl := lv_entry ([.ref (a 0), .int dd]) (n := 3) (Nat.le_of_ble_eq_true rfl)
  rw [lg_entry_eq]
  generalize (lg_sl ([.ref (a 0), .int dd]) ++ List.replicate (3 - (lg_sl ([.ref (a 0), .int dd])).length) Slot.unset).toArray = ls at hl ⊢
  have hl : lv_has ls 3 [(0, .ref (a 0)), (1, .int dd)] := hl
  refine lv_iconst (v := 0) hx hb dX0_addDays_0 (by decide) ?_
  refine lv_istore_n (lv' := [(2, .int 0), (0, .ref (a 0)), (1, .int dd)]) hx hb dX0_addDays_1 rfl hl (by decide) rfl (fun ls hl => ?_)
  have loop_2 : ∀ (kk : Nat) (n : Nat) (y0_2 : BK), n ≤ 6 → 6 - n < kk → y0_2 = f_X0_addDays_2 B dd B n → ∀ (H : Heap) (locs : List Loc), va_P D vwCl (bkW (cA 0) a y0_2) H → va_D (zfr (bkW (cA 0) a B)) (bkW (cA 0) a y0_2) → va_S (zfr (bkW (cA 0) a B)) s.heap H locs → ∀ (ls : Array Slot), lv_has ls 3 [(0, .ref (a 0)), (1, .int dd), (2, .int (nI n))] → W p l e (headSpec wsX0_addDays (zrm 0 0)).room s m ([.ref (a 0), .int dd] : List Value).toArray below meth c H locs 0 0 (MQ below (zM D (bkW (cA 0) a B) (bkW (cA 0) a ((f_X0_addDays B dd).2)) (some (.int ((f_X0_addDays B dd).1)))) ([.ref (a 0), .int dd] : List Value).toArray s 0 0 (zfr (bkW (cA 0) a B))) (F0 m 2 ls []) := by
    intro kk
    induction kk with
    | zero => intro n y0_2 _ h9; exact absurd h9 (Nat.not_lt_zero _)
    | succ kk ih_2 =>
      intro n y0_2 hn_2 hm_2 q_y0_2 H locs hP hD hS ls hl
      refine lv_iload_n hx hb dX0_addDays_2 rfl (lv_at hl 2 rfl) ?_
      refine lv_bipush (v := 6) hx hb dX0_addDays_3 (by decide) ?_
      refine lv_icmp_ge (tgt := 31) hx hb dX0_addDays_5 (by decide) (fun c_1 => ?_) (fun c_1 => ?_)
      · have c_1 : 6 ≤ n := (nI_leI (a := 6) (b := n) (by omega) (by omega)).mp c_1
        obtain rfl : n = 6 := by omega
        refine lv_aload_n hx hb dX0_addDays_31 rfl (lv_at hl 0 rfl) ?_
        refine lv_dup hx hb dX0_addDays_32 rfl ?_
        refine va_get (D := D) (ci := 0) (v := .int (y0_2 8 5)) (C := RX0) (T := TX0) (N := 16) hx hb hts hi0 hown hK hP 0 rfl rfl 13 (by decide) (hts (.fieldLink RX0 56 "PledgedLoans$Books" "day" "I") (List.mem_of_getElem? (i := 3) rfl)) (fun _ h9 => h9) rfl dX0_addDays_33 ?_
        refine lv_iload_n hx hb dX0_addDays_36 rfl (lv_at hl 1 rfl) ?_
        refine lv_iadd hx hb dX0_addDays_37 ?_
        refine va_put (D := D) (ci := 0) (v := .int ((y0_2 8 5) + dd)) (ty := .int) (C := RX0) (T := TX0) (N := 16) hx hb hts hi0 tyX0 tyX0_ok nmX0 hown hK hP hD hS 0 rfl rfl 13 (by decide) (hts (.fieldLink RX0 56 "PledgedLoans$Books" "day" "I") (List.mem_of_getElem? (i := 3) rfl)) (fun _ h9 => h9) rfl (by decide +kernel) rfl rfl (Nat.le_of_ble_eq_true rfl) dX0_addDays_38 (fun H locs hP hD hS => ?_)
        have hP : va_P D vwCl (bkW (cA 0) a (uB y0_2 8 5 ((y0_2 8 5) + dd))) H := hP
        have hD : va_D _ (bkW (cA 0) a (uB y0_2 8 5 ((y0_2 8 5) + dd))) := hD
        refine lv_aload_n hx hb dX0_addDays_41 rfl (lv_at hl 0 rfl) ?_
        refine va_get (D := D) (ci := 0) (v := .int ((uB y0_2 8 5 ((y0_2 8 5) + dd)) 8 5)) (C := RX0) (T := TX0) (N := 16) hx hb hts hi0 hown hK hP 0 rfl rfl 13 (by decide) (hts (.fieldLink RX0 56 "PledgedLoans$Books" "day" "I") (List.mem_of_getElem? (i := 3) rfl)) (fun _ h9 => h9) rfl dX0_addDays_42 ?_
        exact z_iretM (w1 := bkW (cA 0) a (uB y0_2 8 5 ((y0_2 8 5) + dd))) hx hb hr hlocks dX0_addDays_45 hP hS (by subst q_y0_2; rfl) (by subst q_y0_2; rfl)
      · have c_1 : ¬ 6 ≤ n := fun h9 => c_1 ((nI_leI (a := 6) (b := n) (by omega) (by omega)).mpr h9)
        refine lv_aload_n hx hb dX0_addDays_8 rfl (lv_at hl 0 rfl) ?_
        refine va_get (D := D) (ci := 0) (v := .ref (a 2)) (C := RX0) (T := TX0) (N := 16) hx hb hts hi0 hown hK hP 0 rfl rfl 1 (by decide) (hts (.fieldLink RX0 15 "PledgedLoans$Books" "shareDays" "[I") (List.mem_of_getElem? (i := 1) rfl)) (fun _ h9 => h9) rfl dX0_addDays_9 ?_
        refine lv_iload_n hx hb dX0_addDays_12 rfl (lv_at hl 2 rfl) ?_
        refine lv_dup2_11 hx hb dX0_addDays_13 rfl rfl ?_
        refine z_iald (j := n) hx hb hK hP 2 0 rfl rfl dX0_addDays_14 (by omega) (by decide) ?_
        refine lv_aload_n hx hb dX0_addDays_15 rfl (lv_at hl 0 rfl) ?_
        refine va_get (D := D) (ci := 0) (v := .ref (a 1)) (C := RX0) (T := TX0) (N := 16) hx hb hts hi0 hown hK hP 0 rfl rfl 0 (by decide) (hts (.fieldLink RX0 9 "PledgedLoans$Books" "shares" "[I") (List.mem_of_getElem? (i := 2) rfl)) (fun _ h9 => h9) rfl dX0_addDays_16 ?_
        refine lv_iload_n hx hb dX0_addDays_19 rfl (lv_at hl 2 rfl) ?_
        refine z_iald (j := n) hx hb hK hP 1 0 rfl rfl dX0_addDays_20 (by omega) (by decide) ?_
        refine lv_iload_n hx hb dX0_addDays_21 rfl (lv_at hl 1 rfl) ?_
        refine lv_imul hx hb dX0_addDays_22 ?_
        refine lv_iadd hx hb dX0_addDays_23 ?_
        refine z_iast (j := n) hx hb hK hP hD hS 2 0 rfl rfl dX0_addDays_24 (by omega) (by decide) (bkW (cA 0) a (uB y0_2 1 n ((y0_2 1 n) + ((y0_2 0 n) * dd)))) rfl (fun H locs hP hD hS => ?_)
        refine lv_iinc (v := nI (n + 1)) (lv' := [(2, .int (nI (n + 1))), (0, .ref (a 0)), (1, .int dd)]) hx hb dX0_addDays_25 hl (k := 2) rfl (by rw [show (Int32.ofInt 1) = nI 1 from by decide]; exact nI_add n 1) (by decide) rfl (fun ls hl => ?_)
        refine lv_goto (tgt := 2) hx hb dX0_addDays_28 (by decide) ?_
        exact ih_2 (n + 1) _ (by omega) (by omega) (by subst q_y0_2; rfl) _ _ hP hD hS ls (lv_sub hl [1, 2, 0] rfl)
  exact loop_2 _ 0 _ (by omega) (Nat.lt_succ_self _) rfl _ _ hP hD hS ls (lv_sub hl [1, 2, 0] rfl)

theorem zy_X0_dividendOf : yX0_dividendOf.cls = RX0 ∧ yX0_dividendOf.cls ≠ "java/lang/invoke/MethodHandle" ∧ yX0_dividendOf.cls ≠ "java/lang/invoke/VarHandle" ∧ (parseMethodDescriptor yX0_dividendOf.desc).map (fun d => d.parameters.length) = some 2 := by decide +kernel
def f_X0_dividendOf (B : BK) (mb : Nat) (al : Int64) : Int32 :=
  if 1 ≤ al then
    ((((B 8 1).toInt64) * ((B 1 mb).toInt64)) / al).toInt32
  else
    0

set_option maxHeartbeats 4000000 in
set_option maxRecDepth 100000 in
theorem zc_X0_dividendOf (l : Launch) (D : va_G) (cA : Nat → ClassId) (a : Nat → Nat) (B : BK) (mb : Nat) (al : Int64) (hmb : mb < 6) : Met l yX0_dividendOf wsX0_dividendOf (zrm 0 0) (zPc D cA [.ref (a 0), .int (nI mb), .long al] (bkW (cA 0) a B)) (zE (some (.int (f_X0_dividendOf B mb al)))) 0 0 (fun _ => False) := by
  refine Met.ofW (cc := cX0_dividendOf) (maxL := 4) (ret := (some .int)) (by decide) rfl ?_
  intro p e s m args below meth c s₁ Bd hml hv
  obtain ⟨rfl, hP, hK, hD0⟩ := hv
  have hx := Bd.exec
  have hb := Bd.bytes
  have hr := Bd.returns
  have hts := atoms_spec (ws := wsX0_dividendOf) Bd.pre
  have hown : s.vm.findClass RX0 = some m.cls := findClass_of_methodNamed Bd.named
  have hlocks := Bd.notSynchronized
  have hD := z_Dfr hD0
  have hS : va_S (zfr (bkW (cA 0) a B)) s.heap s.heap [] := va_S.rf
  have hi0 : ∀ w ∈ wsX00, w ∈ wsX0_dividendOf := fun w h => List.mem_cons_of_mem _ (List.mem_append_right _ h)
  have hl := lv_entry ([.ref (a 0), .int (nI mb), .long al]) (n := 4) (Nat.le_of_ble_eq_true rfl)
  rw [lg_entry_eq]
  generalize (lg_sl ([.ref (a 0), .int (nI mb), .long al]) ++ List.replicate (4 - (lg_sl ([.ref (a 0), .int (nI mb), .long al])).length) Slot.unset).toArray = ls at hl ⊢
  have hl : lv_has ls 4 [(0, .ref (a 0)), (1, .int (nI mb)), (2, .long al)] := hl
  refine lv_lload_n hx hb dX0_dividendOf_0 rfl (lv_at hl 2 rfl) ?_
  refine lv_lconst (v := 1) hx hb dX0_dividendOf_1 (by decide) ?_
  refine W.lcmp hx hb dX0_dividendOf_2 ?_
  refine lv_if_ge (tgt := 10) hx hb dX0_dividendOf_3 (by decide) (fun c_1 => ?_) (fun c_1 => ?_)
  · have c_1 : 1 ≤ al := (lg_cmp_ge _ _).mp c_1
    refine lv_aload_n hx hb dX0_dividendOf_10 rfl (lv_at hl 0 rfl) ?_
    refine va_get (D := D) (ci := 0) (v := .int (B 8 1)) (C := RX0) (T := TX0) (N := 16) hx hb hts hi0 hown hK hP 0 rfl rfl 9 (by decide) (hts (.fieldLink RX0 44 "PledgedLoans$Books" "surplus" "I") (List.mem_of_getElem? (i := 1) rfl)) (fun _ h9 => h9) rfl dX0_dividendOf_11 ?_
    refine lv_i2l (v := (B 8 1).toInt64) hx hb dX0_dividendOf_14 rfl ?_
    refine lv_aload_n hx hb dX0_dividendOf_15 rfl (lv_at hl 0 rfl) ?_
    refine va_get (D := D) (ci := 0) (v := .ref (a 2)) (C := RX0) (T := TX0) (N := 16) hx hb hts hi0 hown hK hP 0 rfl rfl 1 (by decide) (hts (.fieldLink RX0 15 "PledgedLoans$Books" "shareDays" "[I") (List.mem_of_getElem? (i := 2) rfl)) (fun _ h9 => h9) rfl dX0_dividendOf_16 ?_
    refine lv_iload_n hx hb dX0_dividendOf_19 rfl (lv_at hl 1 rfl) ?_
    refine z_iald (j := mb) hx hb hK hP 2 0 rfl rfl dX0_dividendOf_20 (by omega) (by decide) ?_
    refine lv_i2l (v := (B 1 mb).toInt64) hx hb dX0_dividendOf_21 rfl ?_
    refine lv_lmul hx hb dX0_dividendOf_22 ?_
    refine lv_lload_n hx hb dX0_dividendOf_23 rfl (lv_at hl 2 rfl) ?_
    refine lv_ldiv hx hb dX0_dividendOf_24 (z_nz c_1) ?_
    refine lv_l2i (v := ((((B 8 1).toInt64) * ((B 1 mb).toInt64)) / al).toInt32) hx hb dX0_dividendOf_25 rfl ?_
    exact z_iretE hx hb hr hlocks dX0_dividendOf_26 (by simp only [f_X0_dividendOf, if_pos c_1])
  · have c_1 : ¬ 1 ≤ al := fun h9 => c_1 ((lg_cmp_ge _ _).mpr h9)
    refine lv_iconst (v := 0) hx hb dX0_dividendOf_6 (by decide) ?_
    refine lv_goto (tgt := 26) hx hb dX0_dividendOf_7 (by decide) ?_
    exact z_iretE hx hb hr hlocks dX0_dividendOf_26 (by simp only [f_X0_dividendOf, if_neg c_1])

theorem zy_X0_shareOut : yX0_shareOut.cls = RX0 ∧ yX0_shareOut.cls ≠ "java/lang/invoke/MethodHandle" ∧ yX0_shareOut.cls ≠ "java/lang/invoke/VarHandle" ∧ (parseMethodDescriptor yX0_shareOut.desc).map (fun d => d.parameters.length) = some 0 := by decide +kernel
def f_X0_shareOut_28 (B : BK) (i0 : Int32) (i1 : BK) : Nat → Int32 × BK
  | 0 => (i0, i1)
  | n + 1 =>
    let y0_28 : Int32 := (f_X0_shareOut_28 B i0 i1 n).1
    let y1_28 : BK := (f_X0_shareOut_28 B i0 i1 n).2
    let M_3 : BK := uB y1_28 0 n ((y1_28 0 n) + (f_X0_dividendOf y1_28 n (f_X0_allShareDays B)))
    (y0_28 + (f_X0_dividendOf y1_28 n (f_X0_allShareDays B)), uB M_3 1 n 0)
def f_X0_shareOut (B : BK) : Int32 × BK :=
  if 1 ≤ (f_X0_allShareDays B) then
    let y0_28 : Int32 := (f_X0_shareOut_28 B 0 B 6).1
    let y1_28 : BK := (f_X0_shareOut_28 B 0 B 6).2
    let M_4 : BK := uB (uB y1_28 8 1 ((y1_28 8 1) - y0_28)) 8 7 (((uB y1_28 8 1 ((y1_28 8 1) - y0_28)) 8 7) + y0_28)
    (y0_28, M_4)
  else
    ((-1), uB B 8 6 ((B 8 6) + 1))

set_option maxHeartbeats 4000000 in
set_option maxRecDepth 100000 in
theorem zc_X0_shareOut (l : Launch) (D : va_G) (cA : Nat → ClassId) (a : Nat → Nat) (B : BK)  : Met l yX0_shareOut wsX0_shareOut (zrm 1 26) (zPc D cA [.ref (a 0)] (bkW (cA 0) a B)) (zM D (bkW (cA 0) a B) (bkW (cA 0) a ((f_X0_shareOut B).2)) (some (.int ((f_X0_shareOut B).1)))) 0 0 (zfr (bkW (cA 0) a B)) := by
  refine Met.ofW (cc := cX0_shareOut) (maxL := 6) (ret := (some .int)) (by decide) rfl ?_
  intro p e s m args below meth c s₁ Bd hml hv
  obtain ⟨rfl, hP, hK, hD0⟩ := hv
  have hx := Bd.exec
  have hb := Bd.bytes
  have hr := Bd.returns
  have hts := atoms_spec (ws := wsX0_shareOut) Bd.pre
  have hown : s.vm.findClass RX0 = some m.cls := findClass_of_methodNamed Bd.named
  have hlocks := Bd.notSynchronized
  have hD := z_Dfr hD0
  have hS : va_S (zfr (bkW (cA 0) a B)) s.heap s.heap [] := va_S.rf
  have hi0 : ∀ w ∈ wsX00, w ∈ wsX0_shareOut := fun w h => List.mem_cons_of_mem _ (List.mem_append_right _ h)
  have hl := lv_entry ([.ref (a 0)]) (n := 6) (Nat.le_of_ble_eq_true rfl)
  rw [lg_entry_eq]
  generalize (lg_sl ([.ref (a 0)]) ++ List.replicate (6 - (lg_sl ([.ref (a 0)])).length) Slot.unset).toArray = ls at hl ⊢
  have hl : lv_has ls 6 [(0, .ref (a 0))] := hl
  refine lv_aload_n hx hb dX0_shareOut_0 rfl (lv_at hl 0 rfl) ?_
  refine z_E (va_runV (As := []) (rest := []) ⟨hx, hb, hml, hown, hts⟩ (zc_X0_allShareDays l D cA a B) (cwV 0 hts gX0_shareOut_X0_allShareDays rfl rfl rfl zy_X0_allShareDays ⟨Nat.le_of_ble_eq_true rfl, Nat.le_of_ble_eq_true rfl⟩) (z_preV (ci := 0) hK hP hD rfl rfl) rfl rfl hl.1 rfl (lv_room (Nat.le_of_ble_eq_true rfl)) dX0_shareOut_1 ⟨Nat.zero_le _, Nat.zero_le _⟩) rfl ?_
  refine lv_lstore_n (lv' := [(1, .long (f_X0_allShareDays B)), (0, .ref (a 0))]) hx hb dX0_shareOut_4 rfl hl (by decide) rfl (fun ls hl => ?_)
  refine lv_lload_n hx hb dX0_shareOut_5 rfl (lv_at hl 0 rfl) ?_
  refine lv_lconst (v := 1) hx hb dX0_shareOut_6 (by decide) ?_
  refine W.lcmp hx hb dX0_shareOut_7 ?_
  refine lv_if_ge (tgt := 23) hx hb dX0_shareOut_8 (by decide) (fun c_1 => ?_) (fun c_1 => ?_)
  · have c_1 : 1 ≤ (f_X0_allShareDays B) := (lg_cmp_ge _ _).mp c_1
    refine lv_iconst (v := 0) hx hb dX0_shareOut_23 (by decide) ?_
    refine lv_istore_n (lv' := [(3, .int 0), (1, .long (f_X0_allShareDays B)), (0, .ref (a 0))]) hx hb dX0_shareOut_24 rfl hl (by decide) rfl (fun ls hl => ?_)
    refine lv_iconst (v := 0) hx hb dX0_shareOut_25 (by decide) ?_
    refine lv_istore (lv' := [(4, .int 0), (3, .int 0), (1, .long (f_X0_allShareDays B)), (0, .ref (a 0))]) hx hb dX0_shareOut_26 hl (by decide) rfl (fun ls hl => ?_)
    have loop_28 : ∀ (kk : Nat) (n : Nat) (y0_28 : Int32) (y1_28 : BK), n ≤ 6 → 6 - n < kk → y0_28 = (f_X0_shareOut_28 B 0 B n).1 → y1_28 = (f_X0_shareOut_28 B 0 B n).2 → ∀ (H : Heap) (locs : List Loc), va_P D vwCl (bkW (cA 0) a y1_28) H → va_D (zfr (bkW (cA 0) a B)) (bkW (cA 0) a y1_28) → va_S (zfr (bkW (cA 0) a B)) s.heap H locs → ∀ (ls : Array Slot), lv_has ls 6 [(0, .ref (a 0)), (1, .long (f_X0_allShareDays B)), (3, .int y0_28), (4, .int (nI n))] → W p l e (headSpec wsX0_shareOut (zrm 1 26)).room s m ([.ref (a 0)] : List Value).toArray below meth c H locs 0 0 (MQ below (zM D (bkW (cA 0) a B) (bkW (cA 0) a ((f_X0_shareOut B).2)) (some (.int ((f_X0_shareOut B).1)))) ([.ref (a 0)] : List Value).toArray s 0 0 (zfr (bkW (cA 0) a B))) (F0 m 28 ls []) := by
      intro kk
      induction kk with
      | zero => intro n y0_28 y1_28 _ h9; exact absurd h9 (Nat.not_lt_zero _)
      | succ kk ih_28 =>
        intro n y0_28 y1_28 hn_28 hm_28 q_y0_28 q_y1_28 H locs hP hD hS ls hl
        refine lv_iload hx hb dX0_shareOut_28 (lv_at hl 3 rfl) ?_
        refine lv_bipush (v := 6) hx hb dX0_shareOut_30 (by decide) ?_
        refine lv_icmp_ge (tgt := 75) hx hb dX0_shareOut_32 (by decide) (fun c_2 => ?_) (fun c_2 => ?_)
        · have c_2 : 6 ≤ n := (nI_leI (a := 6) (b := n) (by omega) (by omega)).mp c_2
          obtain rfl : n = 6 := by omega
          refine lv_aload_n hx hb dX0_shareOut_75 rfl (lv_at hl 0 rfl) ?_
          refine lv_dup hx hb dX0_shareOut_76 rfl ?_
          refine va_get (D := D) (ci := 0) (v := .int (y1_28 8 1)) (C := RX0) (T := TX0) (N := 16) hx hb hts hi0 hown hK hP 0 rfl rfl 9 (by decide) (hts (.fieldLink RX0 44 "PledgedLoans$Books" "surplus" "I") (List.mem_of_getElem? (i := 4) rfl)) (fun _ h9 => h9) rfl dX0_shareOut_77 ?_
          refine lv_iload_n hx hb dX0_shareOut_80 rfl (lv_at hl 2 rfl) ?_
          refine lv_isub hx hb dX0_shareOut_81 ?_
          refine va_put (D := D) (ci := 0) (v := .int ((y1_28 8 1) - y0_28)) (ty := .int) (C := RX0) (T := TX0) (N := 16) hx hb hts hi0 tyX0 tyX0_ok nmX0 hown hK hP hD hS 0 rfl rfl 9 (by decide) (hts (.fieldLink RX0 44 "PledgedLoans$Books" "surplus" "I") (List.mem_of_getElem? (i := 4) rfl)) (fun _ h9 => h9) rfl (by decide +kernel) rfl rfl (Nat.le_of_ble_eq_true rfl) dX0_shareOut_82 (fun H locs hP hD hS => ?_)
          have hP : va_P D vwCl (bkW (cA 0) a (uB y1_28 8 1 ((y1_28 8 1) - y0_28))) H := hP
          have hD : va_D _ (bkW (cA 0) a (uB y1_28 8 1 ((y1_28 8 1) - y0_28))) := hD
          refine lv_aload_n hx hb dX0_shareOut_85 rfl (lv_at hl 0 rfl) ?_
          refine lv_dup hx hb dX0_shareOut_86 rfl ?_
          refine va_get (D := D) (ci := 0) (v := .int ((uB y1_28 8 1 ((y1_28 8 1) - y0_28)) 8 7)) (C := RX0) (T := TX0) (N := 16) hx hb hts hi0 hown hK hP 0 rfl rfl 15 (by decide) (hts (.fieldLink RX0 62 "PledgedLoans$Books" "dividendsPaid" "I") (List.mem_of_getElem? (i := 5) rfl)) (fun _ h9 => h9) rfl dX0_shareOut_87 ?_
          refine lv_iload_n hx hb dX0_shareOut_90 rfl (lv_at hl 2 rfl) ?_
          refine lv_iadd hx hb dX0_shareOut_91 ?_
          refine va_put (D := D) (ci := 0) (v := .int (((uB y1_28 8 1 ((y1_28 8 1) - y0_28)) 8 7) + y0_28)) (ty := .int) (C := RX0) (T := TX0) (N := 16) hx hb hts hi0 tyX0 tyX0_ok nmX0 hown hK hP hD hS 0 rfl rfl 15 (by decide) (hts (.fieldLink RX0 62 "PledgedLoans$Books" "dividendsPaid" "I") (List.mem_of_getElem? (i := 5) rfl)) (fun _ h9 => h9) rfl (by decide +kernel) rfl rfl (Nat.le_of_ble_eq_true rfl) dX0_shareOut_92 (fun H locs hP hD hS => ?_)
          have hP : va_P D vwCl (bkW (cA 0) a (uB (uB y1_28 8 1 ((y1_28 8 1) - y0_28)) 8 7 (((uB y1_28 8 1 ((y1_28 8 1) - y0_28)) 8 7) + y0_28))) H := hP
          have hD : va_D _ (bkW (cA 0) a (uB (uB y1_28 8 1 ((y1_28 8 1) - y0_28)) 8 7 (((uB y1_28 8 1 ((y1_28 8 1) - y0_28)) 8 7) + y0_28))) := hD
          obtain ⟨M_3, eM_3⟩ : ∃ z9 : BK, z9 = uB (uB y1_28 8 1 ((y1_28 8 1) - y0_28)) 8 7 (((uB y1_28 8 1 ((y1_28 8 1) - y0_28)) 8 7) + y0_28) := ⟨_, rfl⟩
          rw [← eM_3] at hP hD
          refine lv_iload_n hx hb dX0_shareOut_95 rfl (lv_at hl 2 rfl) ?_
          exact z_iretM (w1 := bkW (cA 0) a M_3) hx hb hr hlocks dX0_shareOut_96 hP hS (by subst eM_3 q_y1_28 q_y0_28; simp only [f_X0_shareOut, if_pos c_1]) (by subst eM_3 q_y1_28 q_y0_28; simp only [f_X0_shareOut, if_pos c_1])
        · have c_2 : ¬ 6 ≤ n := fun h9 => c_2 ((nI_leI (a := 6) (b := n) (by omega) (by omega)).mpr h9)
          refine lv_aload_n hx hb dX0_shareOut_35 rfl (lv_at hl 0 rfl) ?_
          refine lv_iload hx hb dX0_shareOut_36 (lv_at hl 3 rfl) ?_
          refine lv_lload_n hx hb dX0_shareOut_38 rfl (lv_at hl 1 rfl) ?_
          refine z_E (va_runV (As := [.int (nI n), .long (f_X0_allShareDays B)]) (rest := []) ⟨hx, hb, hml, hown, hts⟩ (zc_X0_dividendOf l D cA a y1_28 n (f_X0_allShareDays B) (by omega)) (cwV 2 hts gX0_shareOut_X0_dividendOf rfl rfl rfl zy_X0_dividendOf ⟨Nat.le_of_ble_eq_true rfl, Nat.le_of_ble_eq_true rfl⟩) (z_preV (ci := 0) hK hP hD rfl rfl) rfl rfl hl.1 rfl (lv_room (Nat.le_of_ble_eq_true rfl)) dX0_shareOut_39 ⟨Nat.zero_le _, Nat.zero_le _⟩) rfl ?_
          refine lv_istore (lv' := [(5, .int (f_X0_dividendOf y1_28 n (f_X0_allShareDays B))), (0, .ref (a 0)), (1, .long (f_X0_allShareDays B)), (3, .int y0_28), (4, .int (nI n))]) hx hb dX0_shareOut_42 hl (by decide) rfl (fun ls hl => ?_)
          refine lv_aload_n hx hb dX0_shareOut_44 rfl (lv_at hl 1 rfl) ?_
          refine va_get (D := D) (ci := 0) (v := .ref (a 1)) (C := RX0) (T := TX0) (N := 16) hx hb hts hi0 hown hK hP 0 rfl rfl 0 (by decide) (hts (.fieldLink RX0 9 "PledgedLoans$Books" "shares" "[I") (List.mem_of_getElem? (i := 2) rfl)) (fun _ h9 => h9) rfl dX0_shareOut_45 ?_
          refine lv_iload hx hb dX0_shareOut_48 (lv_at hl 4 rfl) ?_
          refine lv_dup2_11 hx hb dX0_shareOut_50 rfl rfl ?_
          refine z_iald (j := n) hx hb hK hP 1 0 rfl rfl dX0_shareOut_51 (by omega) (by decide) ?_
          refine lv_iload hx hb dX0_shareOut_52 (lv_at hl 0 rfl) ?_
          refine lv_iadd hx hb dX0_shareOut_54 ?_
          refine z_iast (j := n) hx hb hK hP hD hS 1 0 rfl rfl dX0_shareOut_55 (by omega) (by decide) (bkW (cA 0) a (uB y1_28 0 n ((y1_28 0 n) + (f_X0_dividendOf y1_28 n (f_X0_allShareDays B))))) rfl (fun H locs hP hD hS => ?_)
          obtain ⟨M_4, eM_4⟩ : ∃ z9 : BK, z9 = uB y1_28 0 n ((y1_28 0 n) + (f_X0_dividendOf y1_28 n (f_X0_allShareDays B))) := ⟨_, rfl⟩
          rw [← eM_4] at hP hD
          refine lv_aload_n hx hb dX0_shareOut_56 rfl (lv_at hl 1 rfl) ?_
          refine va_get (D := D) (ci := 0) (v := .ref (a 2)) (C := RX0) (T := TX0) (N := 16) hx hb hts hi0 hown hK hP 0 rfl rfl 1 (by decide) (hts (.fieldLink RX0 15 "PledgedLoans$Books" "shareDays" "[I") (List.mem_of_getElem? (i := 3) rfl)) (fun _ h9 => h9) rfl dX0_shareOut_57 ?_
          refine lv_iload hx hb dX0_shareOut_60 (lv_at hl 4 rfl) ?_
          refine lv_iconst (v := 0) hx hb dX0_shareOut_62 (by decide) ?_
          refine z_iast (j := n) hx hb hK hP hD hS 2 0 rfl rfl dX0_shareOut_63 (by omega) (by decide) (bkW (cA 0) a (uB M_4 1 n 0)) rfl (fun H locs hP hD hS => ?_)
          refine lv_iload_n hx hb dX0_shareOut_64 rfl (lv_at hl 3 rfl) ?_
          refine lv_iload hx hb dX0_shareOut_65 (lv_at hl 0 rfl) ?_
          refine lv_iadd hx hb dX0_shareOut_67 ?_
          refine lv_istore_n (lv' := [(3, .int (y0_28 + (f_X0_dividendOf y1_28 n (f_X0_allShareDays B)))), (5, .int (f_X0_dividendOf y1_28 n (f_X0_allShareDays B))), (0, .ref (a 0)), (1, .long (f_X0_allShareDays B)), (4, .int (nI n))]) hx hb dX0_shareOut_68 rfl hl (by decide) rfl (fun ls hl => ?_)
          refine lv_iinc (v := nI (n + 1)) (lv' := [(4, .int (nI (n + 1))), (3, .int (y0_28 + (f_X0_dividendOf y1_28 n (f_X0_allShareDays B)))), (5, .int (f_X0_dividendOf y1_28 n (f_X0_allShareDays B))), (0, .ref (a 0)), (1, .long (f_X0_allShareDays B))]) hx hb dX0_shareOut_69 hl (k := 4) rfl (by rw [show (Int32.ofInt 1) = nI 1 from by decide]; exact nI_add n 1) (by decide) rfl (fun ls hl => ?_)
          refine lv_goto (tgt := 28) hx hb dX0_shareOut_72 (by decide) ?_
          exact ih_28 (n + 1) _ _ (by omega) (by omega) (by subst eM_4 q_y1_28 q_y0_28; rfl) (by subst eM_4 q_y1_28 q_y0_28; rfl) _ _ hP hD hS ls (lv_sub hl [3, 4, 1, 0] rfl)
    exact loop_28 _ 0 _ _ (by omega) (Nat.lt_succ_self _) rfl rfl _ _ hP hD hS ls (lv_sub hl [3, 2, 1, 0] rfl)
  · have c_1 : ¬ 1 ≤ (f_X0_allShareDays B) := fun h9 => c_1 ((lg_cmp_ge _ _).mpr h9)
    refine lv_aload_n hx hb dX0_shareOut_11 rfl (lv_at hl 1 rfl) ?_
    refine lv_dup hx hb dX0_shareOut_12 rfl ?_
    refine va_get (D := D) (ci := 0) (v := .int (B 8 6)) (C := RX0) (T := TX0) (N := 16) hx hb hts hi0 hown hK hP 0 rfl rfl 14 (by decide) (hts (.fieldLink RX0 59 "PledgedLoans$Books" "refused" "I") (List.mem_of_getElem? (i := 1) rfl)) (fun _ h9 => h9) rfl dX0_shareOut_13 ?_
    refine lv_iconst (v := 1) hx hb dX0_shareOut_16 (by decide) ?_
    refine lv_iadd hx hb dX0_shareOut_17 ?_
    refine va_put (D := D) (ci := 0) (v := .int ((B 8 6) + 1)) (ty := .int) (C := RX0) (T := TX0) (N := 16) hx hb hts hi0 tyX0 tyX0_ok nmX0 hown hK hP hD hS 0 rfl rfl 14 (by decide) (hts (.fieldLink RX0 59 "PledgedLoans$Books" "refused" "I") (List.mem_of_getElem? (i := 1) rfl)) (fun _ h9 => h9) rfl (by decide +kernel) rfl rfl (Nat.le_of_ble_eq_true rfl) dX0_shareOut_18 (fun H locs hP hD hS => ?_)
    have hP : va_P D vwCl (bkW (cA 0) a (uB B 8 6 ((B 8 6) + 1))) H := hP
    have hD : va_D _ (bkW (cA 0) a (uB B 8 6 ((B 8 6) + 1))) := hD
    refine lv_iconst (v := (-1)) hx hb dX0_shareOut_21 (by decide) ?_
    exact z_iretM (w1 := bkW (cA 0) a (uB B 8 6 ((B 8 6) + 1))) hx hb hr hlocks dX0_shareOut_22 hP hS (by simp only [f_X0_shareOut, if_neg c_1]) (by simp only [f_X0_shareOut, if_neg c_1])
end

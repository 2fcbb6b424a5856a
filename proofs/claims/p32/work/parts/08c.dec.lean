/-! decode rows of the union, and of bitCount -/
set_option maxRecDepth 20000 in
theorem ggX2_init_X0_init : GoodIn wsX2_init wsX0_init := goodIn_r _ [21, 22, 2, 3, 18, 23, 24, 25, 26, 27, 28, 29, 30, 34, 35, 36, 37, 38, 39, 40, 41, 42, 43, 44, 45, 46, 47, 48, 49] (by decide +kernel) (by decide +kernel)
set_option maxRecDepth 20000 in
theorem gX2_init_X0_init_n9 : GoodIn wsX2_init (wsX0_init) := ggX2_init_X0_init
set_option maxRecDepth 20000 in
theorem ggX2_init_X1_init : GoodIn wsX2_init wsX1_init := goodIn_r _ [32, 33, 2, 3] (by decide +kernel) (by decide +kernel)
set_option maxRecDepth 20000 in
theorem gX2_init_X1_init_n33 : GoodIn wsX2_init (wsX1_init) := ggX2_init_X1_init
theorem dX2_init_0 : decode cX2_init 0 = .ok (.aload_n 0, 1) := by decide +kernel
theorem dX2_init_1 : decode cX2_init 1 = .ok (.invokespecial 1, 3) := by decide +kernel
theorem dX2_init_4 : decode cX2_init 4 = .ok (.aload_n 0, 1) := by decide +kernel
theorem dX2_init_5 : decode cX2_init 5 = .ok (.new 7, 3) := by decide +kernel
theorem dX2_init_8 : decode cX2_init 8 = .ok (.dup, 1) := by decide +kernel
theorem dX2_init_9 : decode cX2_init 9 = .ok (.invokespecial 9, 3) := by decide +kernel
theorem dX2_init_12 : decode cX2_init 12 = .ok (.putfield 10, 3) := by decide +kernel
theorem dX2_init_15 : decode cX2_init 15 = .ok (.aload_n 0, 1) := by decide +kernel
theorem dX2_init_16 : decode cX2_init 16 = .ok (.bipush 6, 2) := by decide +kernel
theorem dX2_init_18 : decode cX2_init 18 = .ok (.anewarray 7, 3) := by decide +kernel
theorem dX2_init_21 : decode cX2_init 21 = .ok (.putfield 16, 3) := by decide +kernel
theorem dX2_init_24 : decode cX2_init 24 = .ok (.aload_n 0, 1) := by decide +kernel
theorem dX2_init_25 : decode cX2_init 25 = .ok (.iconst 2, 1) := by decide +kernel
theorem dX2_init_26 : decode cX2_init 26 = .ok (.anewarray 7, 3) := by decide +kernel
theorem dX2_init_29 : decode cX2_init 29 = .ok (.putfield 20, 3) := by decide +kernel
theorem dX2_init_32 : decode cX2_init 32 = .ok (.aload_n 0, 1) := by decide +kernel
theorem dX2_init_33 : decode cX2_init 33 = .ok (.iconst 2, 1) := by decide +kernel
theorem dX2_init_34 : decode cX2_init 34 = .ok (.newarray .boolean, 2) := by decide +kernel
theorem dX2_init_36 : decode cX2_init 36 = .ok (.putfield 23, 3) := by decide +kernel
theorem dX2_init_39 : decode cX2_init 39 = .ok (.aload_n 0, 1) := by decide +kernel
theorem dX2_init_40 : decode cX2_init 40 = .ok (.bipush 60, 2) := by decide +kernel
theorem dX2_init_42 : decode cX2_init 42 = .ok (.newarray .char, 2) := by decide +kernel
theorem dX2_init_44 : decode cX2_init 44 = .ok (.putfield 27, 3) := by decide +kernel
theorem dX2_init_47 : decode cX2_init 47 = .ok (.aload_n 0, 1) := by decide +kernel
theorem dX2_init_48 : decode cX2_init 48 = .ok (.new 31, 3) := by decide +kernel
theorem dX2_init_51 : decode cX2_init 51 = .ok (.dup, 1) := by decide +kernel
theorem dX2_init_52 : decode cX2_init 52 = .ok (.invokespecial 33, 3) := by decide +kernel
theorem dX2_init_55 : decode cX2_init 55 = .ok (.putfield 34, 3) := by decide +kernel
theorem dX2_init_58 : decode cX2_init 58 = .ok (.aload_n 0, 1) := by decide +kernel
theorem dX2_init_59 : decode cX2_init 59 = .ok (.bipush 6, 2) := by decide +kernel
theorem dX2_init_61 : decode cX2_init 61 = .ok (.newarray .int, 2) := by decide +kernel
theorem dX2_init_63 : decode cX2_init 63 = .ok (.putfield 38, 3) := by decide +kernel
theorem dX2_init_66 : decode cX2_init 66 = .ok (.iconst 0, 1) := by decide +kernel
theorem dX2_init_67 : decode cX2_init 67 = .ok (.istore_n 1, 1) := by decide +kernel
theorem dX2_init_68 : decode cX2_init 68 = .ok (.iload_n 1, 1) := by decide +kernel
theorem dX2_init_69 : decode cX2_init 69 = .ok (.bipush 6, 2) := by decide +kernel
theorem dX2_init_71 : decode cX2_init 71 = .ok (.if_icmp .ge 22, 3) := by decide +kernel
theorem dX2_init_74 : decode cX2_init 74 = .ok (.aload_n 0, 1) := by decide +kernel
theorem dX2_init_75 : decode cX2_init 75 = .ok (.getfield 16, 3) := by decide +kernel
theorem dX2_init_78 : decode cX2_init 78 = .ok (.iload_n 1, 1) := by decide +kernel
theorem dX2_init_79 : decode cX2_init 79 = .ok (.new 7, 3) := by decide +kernel
theorem dX2_init_82 : decode cX2_init 82 = .ok (.dup, 1) := by decide +kernel
theorem dX2_init_83 : decode cX2_init 83 = .ok (.invokespecial 9, 3) := by decide +kernel
theorem dX2_init_86 : decode cX2_init 86 = .ok (.aastore, 1) := by decide +kernel
theorem dX2_init_87 : decode cX2_init 87 = .ok (.iinc 1 1, 3) := by decide +kernel
theorem dX2_init_90 : decode cX2_init 90 = .ok (.goto (-22), 3) := by decide +kernel
theorem dX2_init_93 : decode cX2_init 93 = .ok (.iconst 0, 1) := by decide +kernel
theorem dX2_init_94 : decode cX2_init 94 = .ok (.istore_n 1, 1) := by decide +kernel
theorem dX2_init_95 : decode cX2_init 95 = .ok (.iload_n 1, 1) := by decide +kernel
theorem dX2_init_96 : decode cX2_init 96 = .ok (.iconst 2, 1) := by decide +kernel
theorem dX2_init_97 : decode cX2_init 97 = .ok (.if_icmp .ge 22, 3) := by decide +kernel
theorem dX2_init_100 : decode cX2_init 100 = .ok (.aload_n 0, 1) := by decide +kernel
theorem dX2_init_101 : decode cX2_init 101 = .ok (.getfield 20, 3) := by decide +kernel
theorem dX2_init_104 : decode cX2_init 104 = .ok (.iload_n 1, 1) := by decide +kernel
theorem dX2_init_105 : decode cX2_init 105 = .ok (.new 7, 3) := by decide +kernel
theorem dX2_init_108 : decode cX2_init 108 = .ok (.dup, 1) := by decide +kernel
theorem dX2_init_109 : decode cX2_init 109 = .ok (.invokespecial 9, 3) := by decide +kernel
theorem dX2_init_112 : decode cX2_init 112 = .ok (.aastore, 1) := by decide +kernel
theorem dX2_init_113 : decode cX2_init 113 = .ok (.iinc 1 1, 3) := by decide +kernel
theorem dX2_init_116 : decode cX2_init 116 = .ok (.goto (-21), 3) := by decide +kernel
theorem dX2_init_119 : decode cX2_init 119 = .ok (.return_, 1) := by decide +kernel
set_option maxRecDepth 20000 in
theorem ggX2_payIn_X2_checkMember : GoodIn wsX2_payIn wsX2_checkMember := goodIn_ca (goodIn_r _ [5, 6, 7] (by decide +kernel) (by decide +kernel)) (goodIn_sub (fun _ h => List.mem_cons_of_mem _ (List.mem_append_left _ (List.mem_append_right _ h))) (by decide +kernel))
set_option maxRecDepth 20000 in
theorem gX2_payIn_X2_checkMember : GoodIn wsX2_payIn (va_wsS RX2 42 yX2_checkMember wsX2_checkMember) := goodIn_app (goodIn_of _ (by decide +kernel)) ggX2_payIn_X2_checkMember
set_option maxRecDepth 20000 in
theorem ggX2_payIn_X2_checkAmount : GoodIn wsX2_payIn wsX2_checkAmount := goodIn_ca (goodIn_r _ [10, 11, 12, 4, 13, 14, 15] (by decide +kernel) (by decide +kernel)) (goodIn_sub (fun _ h => List.mem_cons_of_mem _ (List.mem_append_right _ h)) (by decide +kernel))
set_option maxRecDepth 20000 in
theorem gX2_payIn_X2_checkAmount : GoodIn wsX2_payIn (va_wsS RX2 46 yX2_checkAmount wsX2_checkAmount) := goodIn_app (goodIn_of _ (by decide +kernel)) ggX2_payIn_X2_checkAmount
set_option maxRecDepth 20000 in
theorem ggX2_payIn_X2_saveState : GoodIn wsX2_payIn wsX2_saveState := goodIn_r _ [19, 20, 21, 1, 22, 23, 24, 4, 25, 26, 27, 28, 29, 30, 31, 32, 33, 34, 35, 36, 37, 38, 39, 40, 41, 42, 43, 44, 45, 46, 47, 48, 49, 50, 51, 52, 53, 54, 55, 56, 57, 63, 64, 65, 66, 67, 68, 69, 70, 71, 72, 73, 74, 75, 76, 77, 78, 79, 80, 81, 82, 83, 84, 85, 86, 87] (by decide +kernel) (by decide +kernel)
set_option maxRecDepth 20000 in
theorem gX2_payIn_X2_saveState : GoodIn wsX2_payIn (wsV RX2 49 RX2 yX2_saveState wsX2_saveState) := goodIn_app (goodIn_of _ (by decide +kernel)) ggX2_payIn_X2_saveState
set_option maxRecDepth 20000 in
theorem ggX2_payIn_X0_takeIn : GoodIn wsX2_payIn wsX0_takeIn := goodIn_r _ [61, 31, 62, 45, 39, 72, 73, 74, 75, 76, 77, 78, 79, 80, 81, 82, 83, 84, 85, 86, 87] (by decide +kernel) (by decide +kernel)
set_option maxRecDepth 20000 in
theorem gX2_payIn_X0_takeIn : GoodIn wsX2_payIn (wsV RX2 52 RX0 yX0_takeIn wsX0_takeIn) := goodIn_app (goodIn_of _ (by decide +kernel)) ggX2_payIn_X0_takeIn
theorem dX2_payIn_0 : decode cX2_payIn 0 = .ok (.iload_n 1, 1) := by decide +kernel
theorem dX2_payIn_1 : decode cX2_payIn 1 = .ok (.invokestatic 42, 3) := by decide +kernel
theorem dX2_payIn_4 : decode cX2_payIn 4 = .ok (.iload_n 2, 1) := by decide +kernel
theorem dX2_payIn_5 : decode cX2_payIn 5 = .ok (.invokestatic 46, 3) := by decide +kernel
theorem dX2_payIn_8 : decode cX2_payIn 8 = .ok (.aload_n 0, 1) := by decide +kernel
theorem dX2_payIn_9 : decode cX2_payIn 9 = .ok (.invokevirtual 49, 3) := by decide +kernel
theorem dX2_payIn_12 : decode cX2_payIn 12 = .ok (.aload_n 0, 1) := by decide +kernel
theorem dX2_payIn_13 : decode cX2_payIn 13 = .ok (.getfield 10, 3) := by decide +kernel
theorem dX2_payIn_16 : decode cX2_payIn 16 = .ok (.iload_n 1, 1) := by decide +kernel
theorem dX2_payIn_17 : decode cX2_payIn 17 = .ok (.iload_n 2, 1) := by decide +kernel
theorem dX2_payIn_18 : decode cX2_payIn 18 = .ok (.invokevirtual 52, 3) := by decide +kernel
theorem dX2_payIn_21 : decode cX2_payIn 21 = .ok (.ireturn, 1) := by decide +kernel
set_option maxRecDepth 20000 in
theorem ggX2_payOut_X2_checkMember : GoodIn wsX2_payOut wsX2_checkMember := goodIn_ca (goodIn_r _ [5, 6, 7] (by decide +kernel) (by decide +kernel)) (goodIn_sub (fun _ h => List.mem_cons_of_mem _ (List.mem_append_left _ (List.mem_append_right _ h))) (by decide +kernel))
set_option maxRecDepth 20000 in
theorem gX2_payOut_X2_checkMember : GoodIn wsX2_payOut (va_wsS RX2 42 yX2_checkMember wsX2_checkMember) := goodIn_app (goodIn_of _ (by decide +kernel)) ggX2_payOut_X2_checkMember
set_option maxRecDepth 20000 in
theorem ggX2_payOut_X2_checkAmount : GoodIn wsX2_payOut wsX2_checkAmount := goodIn_ca (goodIn_r _ [10, 11, 12, 4, 13, 14, 15] (by decide +kernel) (by decide +kernel)) (goodIn_sub (fun _ h => List.mem_cons_of_mem _ (List.mem_append_right _ h)) (by decide +kernel))
set_option maxRecDepth 20000 in
theorem gX2_payOut_X2_checkAmount : GoodIn wsX2_payOut (va_wsS RX2 46 yX2_checkAmount wsX2_checkAmount) := goodIn_app (goodIn_of _ (by decide +kernel)) ggX2_payOut_X2_checkAmount
set_option maxRecDepth 20000 in
theorem ggX2_payOut_X2_saveState : GoodIn wsX2_payOut wsX2_saveState := goodIn_r _ [19, 20, 21, 1, 22, 23, 24, 4, 25, 26, 27, 28, 29, 30, 31, 32, 33, 34, 35, 36, 37, 38, 39, 40, 41, 42, 43, 44, 45, 46, 47, 48, 49, 50, 51, 52, 53, 54, 55, 56, 57, 81, 82, 83, 84, 85, 86, 87, 88, 89, 90, 91, 92, 93, 94, 95, 96, 97, 98, 99, 100, 101, 102, 103, 104, 105] (by decide +kernel) (by decide +kernel)
set_option maxRecDepth 20000 in
theorem gX2_payOut_X2_saveState : GoodIn wsX2_payOut (wsV RX2 49 RX2 yX2_saveState wsX2_saveState) := goodIn_app (goodIn_of _ (by decide +kernel)) ggX2_payOut_X2_saveState
set_option maxRecDepth 20000 in
theorem ggX2_payOut_X0_giveOut : GoodIn wsX2_payOut wsX0_giveOut := goodIn_r _ [61, 45, 39, 31, 62, 63, 64, 29, 65, 34, 66, 67, 52, 68, 69, 70, 71, 72, 73, 74, 75, 76, 33, 77, 78, 79, 80, 90, 91, 92, 93, 94, 95, 96, 97, 98, 99, 100, 101, 102, 103, 104, 105] (by decide +kernel) (by decide +kernel)
set_option maxRecDepth 20000 in
theorem gX2_payOut_X0_giveOut : GoodIn wsX2_payOut (wsV RX2 56 RX0 yX0_giveOut wsX0_giveOut) := goodIn_app (goodIn_of _ (by decide +kernel)) ggX2_payOut_X0_giveOut
theorem dX2_payOut_0 : decode cX2_payOut 0 = .ok (.iload_n 1, 1) := by decide +kernel
theorem dX2_payOut_1 : decode cX2_payOut 1 = .ok (.invokestatic 42, 3) := by decide +kernel
theorem dX2_payOut_4 : decode cX2_payOut 4 = .ok (.iload_n 2, 1) := by decide +kernel
theorem dX2_payOut_5 : decode cX2_payOut 5 = .ok (.invokestatic 46, 3) := by decide +kernel
theorem dX2_payOut_8 : decode cX2_payOut 8 = .ok (.aload_n 0, 1) := by decide +kernel
theorem dX2_payOut_9 : decode cX2_payOut 9 = .ok (.invokevirtual 49, 3) := by decide +kernel
theorem dX2_payOut_12 : decode cX2_payOut 12 = .ok (.aload_n 0, 1) := by decide +kernel
theorem dX2_payOut_13 : decode cX2_payOut 13 = .ok (.getfield 10, 3) := by decide +kernel
theorem dX2_payOut_16 : decode cX2_payOut 16 = .ok (.iload_n 1, 1) := by decide +kernel
theorem dX2_payOut_17 : decode cX2_payOut 17 = .ok (.iload_n 2, 1) := by decide +kernel
theorem dX2_payOut_18 : decode cX2_payOut 18 = .ok (.invokevirtual 56, 3) := by decide +kernel
theorem dX2_payOut_21 : decode cX2_payOut 21 = .ok (.ireturn, 1) := by decide +kernel
set_option maxRecDepth 20000 in
theorem ggX2_pledge_X2_checkPair : GoodIn wsX2_pledge wsX2_checkPair := goodIn_ca (goodIn_ca (goodIn_r _ [5, 6, 7, 8, 9, 4, 10, 11, 12] (by decide +kernel) (by decide +kernel)) (goodIn_sub (fun _ h => List.mem_cons_of_mem _ (List.mem_append_left _ (List.mem_append_right _ h))) (by decide +kernel))) (goodIn_sub (fun _ h => List.mem_cons_of_mem _ (List.mem_append_right _ h)) (by decide +kernel))
set_option maxRecDepth 20000 in
theorem gX2_pledge_X2_checkPair : GoodIn wsX2_pledge (va_wsS RX2 59 yX2_checkPair wsX2_checkPair) := goodIn_app (goodIn_of _ (by decide +kernel)) ggX2_pledge_X2_checkPair
set_option maxRecDepth 20000 in
theorem ggX2_pledge_X2_checkAmount : GoodIn wsX2_pledge wsX2_checkAmount := goodIn_ca (goodIn_r _ [15, 16, 17, 4, 18, 6, 7] (by decide +kernel) (by decide +kernel)) (goodIn_sub (fun _ h => List.mem_cons_of_mem _ (List.mem_append_left _ (List.mem_append_right _ h))) (by decide +kernel))
set_option maxRecDepth 20000 in
theorem gX2_pledge_X2_checkAmount : GoodIn wsX2_pledge (va_wsS RX2 46 yX2_checkAmount wsX2_checkAmount) := goodIn_app (goodIn_of _ (by decide +kernel)) ggX2_pledge_X2_checkAmount
set_option maxRecDepth 20000 in
theorem ggX2_pledge_X2_saveState : GoodIn wsX2_pledge wsX2_saveState := goodIn_r _ [22, 23, 24, 1, 25, 26, 27, 4, 28, 29, 30, 31, 32, 33, 34, 35, 36, 37, 38, 39, 40, 41, 42, 43, 44, 45, 46, 47, 48, 49, 50, 51, 52, 53, 54, 55, 56, 57, 58, 59, 60, 87, 88, 89, 90, 91, 92, 93, 94, 95, 96, 97, 98, 99, 100, 101, 102, 103, 104, 105, 106, 107, 108, 109, 110, 111] (by decide +kernel) (by decide +kernel)
set_option maxRecDepth 20000 in
theorem gX2_pledge_X2_saveState : GoodIn wsX2_pledge (wsV RX2 49 RX2 yX2_saveState wsX2_saveState) := goodIn_app (goodIn_of _ (by decide +kernel)) ggX2_pledge_X2_saveState
set_option maxRecDepth 20000 in
theorem ggX2_pledge_X0_addPledge : GoodIn wsX2_pledge wsX0_addPledge := goodIn_r _ [64, 48, 36, 65, 66, 67, 32, 68, 37, 69, 70, 55, 71, 72, 73, 74, 75, 34, 76, 77, 78, 79, 80, 81, 82, 83, 84, 85, 86, 96, 97, 98, 99, 100, 101, 102, 103, 104, 105, 106, 107, 108, 109, 110, 111] (by decide +kernel) (by decide +kernel)
set_option maxRecDepth 20000 in
theorem gX2_pledge_X0_addPledge : GoodIn wsX2_pledge (wsV RX2 63 RX0 yX0_addPledge wsX0_addPledge) := goodIn_app (goodIn_of _ (by decide +kernel)) ggX2_pledge_X0_addPledge
theorem dX2_pledge_0 : decode cX2_pledge 0 = .ok (.iload_n 1, 1) := by decide +kernel
theorem dX2_pledge_1 : decode cX2_pledge 1 = .ok (.iload_n 2, 1) := by decide +kernel
theorem dX2_pledge_2 : decode cX2_pledge 2 = .ok (.invokestatic 59, 3) := by decide +kernel
theorem dX2_pledge_5 : decode cX2_pledge 5 = .ok (.iload_n 3, 1) := by decide +kernel
theorem dX2_pledge_6 : decode cX2_pledge 6 = .ok (.invokestatic 46, 3) := by decide +kernel
theorem dX2_pledge_9 : decode cX2_pledge 9 = .ok (.aload_n 0, 1) := by decide +kernel
theorem dX2_pledge_10 : decode cX2_pledge 10 = .ok (.invokevirtual 49, 3) := by decide +kernel
theorem dX2_pledge_13 : decode cX2_pledge 13 = .ok (.aload_n 0, 1) := by decide +kernel
theorem dX2_pledge_14 : decode cX2_pledge 14 = .ok (.getfield 10, 3) := by decide +kernel
theorem dX2_pledge_17 : decode cX2_pledge 17 = .ok (.iload_n 1, 1) := by decide +kernel
theorem dX2_pledge_18 : decode cX2_pledge 18 = .ok (.iload_n 2, 1) := by decide +kernel
theorem dX2_pledge_19 : decode cX2_pledge 19 = .ok (.iload_n 3, 1) := by decide +kernel
theorem dX2_pledge_20 : decode cX2_pledge 20 = .ok (.invokevirtual 63, 3) := by decide +kernel
theorem dX2_pledge_23 : decode cX2_pledge 23 = .ok (.ireturn, 1) := by decide +kernel
set_option maxRecDepth 20000 in
theorem ggX2_unpledge_X2_checkPair : GoodIn wsX2_unpledge wsX2_checkPair := goodIn_ca (goodIn_ca (goodIn_r _ [5, 6, 7, 8, 9, 4, 10, 11, 12] (by decide +kernel) (by decide +kernel)) (goodIn_sub (fun _ h => List.mem_cons_of_mem _ (List.mem_append_left _ (List.mem_append_right _ h))) (by decide +kernel))) (goodIn_sub (fun _ h => List.mem_cons_of_mem _ (List.mem_append_right _ h)) (by decide +kernel))
set_option maxRecDepth 20000 in
theorem gX2_unpledge_X2_checkPair : GoodIn wsX2_unpledge (va_wsS RX2 59 yX2_checkPair wsX2_checkPair) := goodIn_app (goodIn_of _ (by decide +kernel)) ggX2_unpledge_X2_checkPair
set_option maxRecDepth 20000 in
theorem ggX2_unpledge_X2_checkAmount : GoodIn wsX2_unpledge wsX2_checkAmount := goodIn_ca (goodIn_r _ [15, 16, 17, 4, 18, 6, 7] (by decide +kernel) (by decide +kernel)) (goodIn_sub (fun _ h => List.mem_cons_of_mem _ (List.mem_append_left _ (List.mem_append_right _ h))) (by decide +kernel))
set_option maxRecDepth 20000 in
theorem gX2_unpledge_X2_checkAmount : GoodIn wsX2_unpledge (va_wsS RX2 46 yX2_checkAmount wsX2_checkAmount) := goodIn_app (goodIn_of _ (by decide +kernel)) ggX2_unpledge_X2_checkAmount
set_option maxRecDepth 20000 in
theorem ggX2_unpledge_X2_saveState : GoodIn wsX2_unpledge wsX2_saveState := goodIn_r _ [22, 23, 24, 1, 25, 26, 27, 4, 28, 29, 30, 31, 32, 33, 34, 35, 36, 37, 38, 39, 40, 41, 42, 43, 44, 45, 46, 47, 48, 49, 50, 51, 52, 53, 54, 55, 56, 57, 58, 59, 60, 84, 85, 86, 87, 88, 89, 90, 91, 92, 93, 94, 95, 96, 97, 98, 99, 100, 101, 102, 103, 104, 105, 106, 107, 108] (by decide +kernel) (by decide +kernel)
set_option maxRecDepth 20000 in
theorem gX2_unpledge_X2_saveState : GoodIn wsX2_unpledge (wsV RX2 49 RX2 yX2_saveState wsX2_saveState) := goodIn_app (goodIn_of _ (by decide +kernel)) ggX2_unpledge_X2_saveState
set_option maxRecDepth 20000 in
theorem ggX2_unpledge_X0_dropPledge : GoodIn wsX2_unpledge wsX0_dropPledge := goodIn_r _ [64, 36, 48, 37, 65, 66, 32, 67, 68, 69, 70, 71, 72, 73, 74, 75, 34, 76, 77, 78, 79, 80, 81, 82, 83, 93, 94, 95, 96, 97, 98, 99, 100, 101, 102, 103, 104, 105, 106, 107, 108] (by decide +kernel) (by decide +kernel)
set_option maxRecDepth 20000 in
theorem gX2_unpledge_X0_dropPledge : GoodIn wsX2_unpledge (wsV RX2 67 RX0 yX0_dropPledge wsX0_dropPledge) := goodIn_app (goodIn_of _ (by decide +kernel)) ggX2_unpledge_X0_dropPledge
theorem dX2_unpledge_0 : decode cX2_unpledge 0 = .ok (.iload_n 1, 1) := by decide +kernel
theorem dX2_unpledge_1 : decode cX2_unpledge 1 = .ok (.iload_n 2, 1) := by decide +kernel
theorem dX2_unpledge_2 : decode cX2_unpledge 2 = .ok (.invokestatic 59, 3) := by decide +kernel
theorem dX2_unpledge_5 : decode cX2_unpledge 5 = .ok (.iload_n 3, 1) := by decide +kernel
theorem dX2_unpledge_6 : decode cX2_unpledge 6 = .ok (.invokestatic 46, 3) := by decide +kernel
theorem dX2_unpledge_9 : decode cX2_unpledge 9 = .ok (.aload_n 0, 1) := by decide +kernel
theorem dX2_unpledge_10 : decode cX2_unpledge 10 = .ok (.invokevirtual 49, 3) := by decide +kernel
theorem dX2_unpledge_13 : decode cX2_unpledge 13 = .ok (.aload_n 0, 1) := by decide +kernel
theorem dX2_unpledge_14 : decode cX2_unpledge 14 = .ok (.getfield 10, 3) := by decide +kernel
theorem dX2_unpledge_17 : decode cX2_unpledge 17 = .ok (.iload_n 1, 1) := by decide +kernel
theorem dX2_unpledge_18 : decode cX2_unpledge 18 = .ok (.iload_n 2, 1) := by decide +kernel
theorem dX2_unpledge_19 : decode cX2_unpledge 19 = .ok (.iload_n 3, 1) := by decide +kernel
theorem dX2_unpledge_20 : decode cX2_unpledge 20 = .ok (.invokevirtual 67, 3) := by decide +kernel
theorem dX2_unpledge_23 : decode cX2_unpledge 23 = .ok (.ireturn, 1) := by decide +kernel
set_option maxRecDepth 20000 in
theorem ggX2_borrow_X2_checkMember : GoodIn wsX2_borrow wsX2_checkMember := goodIn_ca (goodIn_r _ [5, 6, 7] (by decide +kernel) (by decide +kernel)) (goodIn_sub (fun _ h => List.mem_cons_of_mem _ (List.mem_append_left _ (List.mem_append_right _ h))) (by decide +kernel))
set_option maxRecDepth 20000 in
theorem gX2_borrow_X2_checkMember : GoodIn wsX2_borrow (va_wsS RX2 42 yX2_checkMember wsX2_checkMember) := goodIn_app (goodIn_of _ (by decide +kernel)) ggX2_borrow_X2_checkMember
set_option maxRecDepth 20000 in
theorem ggX2_borrow_X2_checkAmount : GoodIn wsX2_borrow wsX2_checkAmount := goodIn_ca (goodIn_r _ [10, 11, 12, 4, 13, 14, 15] (by decide +kernel) (by decide +kernel)) (goodIn_sub (fun _ h => List.mem_cons_of_mem _ (List.mem_append_right _ h)) (by decide +kernel))
set_option maxRecDepth 20000 in
theorem gX2_borrow_X2_checkAmount : GoodIn wsX2_borrow (va_wsS RX2 46 yX2_checkAmount wsX2_checkAmount) := goodIn_app (goodIn_of _ (by decide +kernel)) ggX2_borrow_X2_checkAmount
set_option maxRecDepth 20000 in
theorem ggX2_borrow_X2_checkRange : GoodIn wsX2_borrow wsX2_checkRange := goodIn_ca (goodIn_r _ [13, 14, 15] (by decide +kernel) (by decide +kernel)) (goodIn_sub (fun _ h => List.mem_cons_of_mem _ (List.mem_append_right _ h)) (by decide +kernel))
set_option maxRecDepth 20000 in
theorem gX2_borrow_X2_checkRange : GoodIn wsX2_borrow (va_wsS RX2 70 yX2_checkRange wsX2_checkRange) := goodIn_app (goodIn_of _ (by decide +kernel)) ggX2_borrow_X2_checkRange
set_option maxRecDepth 20000 in
theorem ggX2_borrow_X2_saveState : GoodIn wsX2_borrow wsX2_saveState := goodIn_r _ [19, 20, 21, 1, 22, 23, 24, 4, 25, 26, 27, 28, 29, 30, 31, 32, 33, 34, 35, 36, 37, 38, 39, 40, 41, 42, 43, 44, 45, 46, 47, 48, 49, 50, 51, 52, 53, 54, 55, 56, 57, 98, 99, 100, 101, 102, 103, 104, 105, 106, 107, 108, 109, 110, 111, 112, 113, 114, 115, 116, 117, 118, 119, 120, 121, 122] (by decide +kernel) (by decide +kernel)
set_option maxRecDepth 20000 in
theorem gX2_borrow_X2_saveState : GoodIn wsX2_borrow (wsV RX2 49 RX2 yX2_saveState wsX2_saveState) := goodIn_app (goodIn_of _ (by decide +kernel)) ggX2_borrow_X2_saveState
set_option maxRecDepth 20000 in
theorem ggX2_borrow_X0_lend : GoodIn wsX2_borrow wsX0_lend := goodIn_r _ [61, 45, 39, 40, 34, 35, 36, 37, 41, 62, 63, 64, 29, 65, 66, 67, 68, 69, 70, 71, 72, 73, 31, 74, 75, 76, 77, 78, 79, 80, 81, 82, 83, 84, 85, 33, 86, 87, 88, 89, 90, 91, 92, 93, 94, 95, 96, 97, 38, 107, 108, 109, 110, 111, 112, 113, 114, 115, 116, 117, 118, 119, 120, 121, 122] (by decide +kernel) (by decide +kernel)
set_option maxRecDepth 20000 in
theorem gX2_borrow_X0_lend : GoodIn wsX2_borrow (wsV RX2 74 RX0 yX0_lend wsX0_lend) := goodIn_app (goodIn_of _ (by decide +kernel)) ggX2_borrow_X0_lend
theorem dX2_borrow_0 : decode cX2_borrow 0 = .ok (.iload_n 1, 1) := by decide +kernel
theorem dX2_borrow_1 : decode cX2_borrow 1 = .ok (.invokestatic 42, 3) := by decide +kernel
theorem dX2_borrow_4 : decode cX2_borrow 4 = .ok (.iload_n 2, 1) := by decide +kernel
theorem dX2_borrow_5 : decode cX2_borrow 5 = .ok (.invokestatic 46, 3) := by decide +kernel
theorem dX2_borrow_8 : decode cX2_borrow 8 = .ok (.iload_n 3, 1) := by decide +kernel
theorem dX2_borrow_9 : decode cX2_borrow 9 = .ok (.iconst 1, 1) := by decide +kernel
theorem dX2_borrow_10 : decode cX2_borrow 10 = .ok (.bipush 52, 2) := by decide +kernel
theorem dX2_borrow_12 : decode cX2_borrow 12 = .ok (.invokestatic 70, 3) := by decide +kernel
theorem dX2_borrow_15 : decode cX2_borrow 15 = .ok (.aload_n 0, 1) := by decide +kernel
theorem dX2_borrow_16 : decode cX2_borrow 16 = .ok (.invokevirtual 49, 3) := by decide +kernel
theorem dX2_borrow_19 : decode cX2_borrow 19 = .ok (.aload_n 0, 1) := by decide +kernel
theorem dX2_borrow_20 : decode cX2_borrow 20 = .ok (.getfield 10, 3) := by decide +kernel
theorem dX2_borrow_23 : decode cX2_borrow 23 = .ok (.iload_n 1, 1) := by decide +kernel
theorem dX2_borrow_24 : decode cX2_borrow 24 = .ok (.iload_n 2, 1) := by decide +kernel
theorem dX2_borrow_25 : decode cX2_borrow 25 = .ok (.iload_n 3, 1) := by decide +kernel
theorem dX2_borrow_26 : decode cX2_borrow 26 = .ok (.invokevirtual 74, 3) := by decide +kernel
theorem dX2_borrow_29 : decode cX2_borrow 29 = .ok (.ireturn, 1) := by decide +kernel
set_option maxRecDepth 20000 in
theorem ggX2_repay_X2_checkMember : GoodIn wsX2_repay wsX2_checkMember := goodIn_ca (goodIn_r _ [5, 6, 7] (by decide +kernel) (by decide +kernel)) (goodIn_sub (fun _ h => List.mem_cons_of_mem _ (List.mem_append_left _ (List.mem_append_right _ h))) (by decide +kernel))
set_option maxRecDepth 20000 in
theorem gX2_repay_X2_checkMember : GoodIn wsX2_repay (va_wsS RX2 42 yX2_checkMember wsX2_checkMember) := goodIn_app (goodIn_of _ (by decide +kernel)) ggX2_repay_X2_checkMember
set_option maxRecDepth 20000 in
theorem ggX2_repay_X2_checkAmount : GoodIn wsX2_repay wsX2_checkAmount := goodIn_ca (goodIn_r _ [10, 11, 12, 4, 13, 14, 15] (by decide +kernel) (by decide +kernel)) (goodIn_sub (fun _ h => List.mem_cons_of_mem _ (List.mem_append_right _ h)) (by decide +kernel))
set_option maxRecDepth 20000 in
theorem gX2_repay_X2_checkAmount : GoodIn wsX2_repay (va_wsS RX2 46 yX2_checkAmount wsX2_checkAmount) := goodIn_app (goodIn_of _ (by decide +kernel)) ggX2_repay_X2_checkAmount
set_option maxRecDepth 20000 in
theorem ggX2_repay_X2_saveState : GoodIn wsX2_repay wsX2_saveState := goodIn_r _ [19, 20, 21, 1, 22, 23, 24, 4, 25, 26, 27, 28, 29, 30, 31, 32, 33, 34, 35, 36, 37, 38, 39, 40, 41, 42, 43, 44, 45, 46, 47, 48, 49, 50, 51, 52, 53, 54, 55, 56, 57, 62, 63, 64, 65, 66, 67, 68, 69, 70, 71, 72, 73, 74, 75, 76, 77, 78, 79, 80, 81, 82, 83, 84, 85, 86] (by decide +kernel) (by decide +kernel)
set_option maxRecDepth 20000 in
theorem gX2_repay_X2_saveState : GoodIn wsX2_repay (wsV RX2 49 RX2 yX2_saveState wsX2_saveState) := goodIn_app (goodIn_of _ (by decide +kernel)) ggX2_repay_X2_saveState
set_option maxRecDepth 20000 in
theorem ggX2_repay_X0_takeBack : GoodIn wsX2_repay wsX0_takeBack := goodIn_r _ [61, 34, 45, 39, 36, 71, 72, 73, 74, 75, 76, 77, 78, 79, 80, 81, 82, 83, 84, 85, 86] (by decide +kernel) (by decide +kernel)
set_option maxRecDepth 20000 in
theorem gX2_repay_X0_takeBack : GoodIn wsX2_repay (wsV RX2 77 RX0 yX0_takeBack wsX0_takeBack) := goodIn_app (goodIn_of _ (by decide +kernel)) ggX2_repay_X0_takeBack
theorem dX2_repay_0 : decode cX2_repay 0 = .ok (.iload_n 1, 1) := by decide +kernel
theorem dX2_repay_1 : decode cX2_repay 1 = .ok (.invokestatic 42, 3) := by decide +kernel
theorem dX2_repay_4 : decode cX2_repay 4 = .ok (.iload_n 2, 1) := by decide +kernel
theorem dX2_repay_5 : decode cX2_repay 5 = .ok (.invokestatic 46, 3) := by decide +kernel
theorem dX2_repay_8 : decode cX2_repay 8 = .ok (.aload_n 0, 1) := by decide +kernel
theorem dX2_repay_9 : decode cX2_repay 9 = .ok (.invokevirtual 49, 3) := by decide +kernel
theorem dX2_repay_12 : decode cX2_repay 12 = .ok (.aload_n 0, 1) := by decide +kernel
theorem dX2_repay_13 : decode cX2_repay 13 = .ok (.getfield 10, 3) := by decide +kernel
theorem dX2_repay_16 : decode cX2_repay 16 = .ok (.iload_n 1, 1) := by decide +kernel
theorem dX2_repay_17 : decode cX2_repay 17 = .ok (.iload_n 2, 1) := by decide +kernel
theorem dX2_repay_18 : decode cX2_repay 18 = .ok (.invokevirtual 77, 3) := by decide +kernel
theorem dX2_repay_21 : decode cX2_repay 21 = .ok (.ireturn, 1) := by decide +kernel
set_option maxRecDepth 20000 in
theorem ggX2_week_X0_canEndWeek : GoodIn wsX2_week wsX0_canEndWeek := goodIn_r _ [8, 9, 87, 88, 89, 90, 91, 92, 93, 94, 95, 96, 97, 98, 99, 100, 101, 102] (by decide +kernel) (by decide +kernel)
set_option maxRecDepth 20000 in
theorem gX2_week_X0_canEndWeek : GoodIn wsX2_week (wsV RX2 80 RX0 yX0_canEndWeek wsX0_canEndWeek) := goodIn_app (goodIn_of _ (by decide +kernel)) ggX2_week_X0_canEndWeek
set_option maxRecDepth 20000 in
theorem ggX2_week_X2_saveState : GoodIn wsX2_week wsX2_saveState := goodIn_r _ [14, 15, 16, 3, 17, 18, 19, 13, 20, 21, 22, 23, 7, 24, 25, 26, 27, 28, 29, 30, 31, 32, 33, 34, 35, 36, 9, 37, 38, 39, 40, 41, 42, 43, 44, 45, 46, 47, 48, 49, 50, 78, 79, 80, 81, 82, 83, 84, 85, 86, 87, 88, 89, 90, 91, 92, 93, 94, 95, 96, 97, 98, 99, 100, 101, 102] (by decide +kernel) (by decide +kernel)
set_option maxRecDepth 20000 in
theorem gX2_week_X2_saveState : GoodIn wsX2_week (wsV RX2 49 RX2 yX2_saveState wsX2_saveState) := goodIn_app (goodIn_of _ (by decide +kernel)) ggX2_week_X2_saveState
set_option maxRecDepth 20000 in
theorem ggX2_week_X0_endWeek : GoodIn wsX2_week wsX0_endWeek := goodIn_r _ [54, 9, 36, 55, 56, 57, 7, 58, 28, 59, 60, 61, 62, 31, 30, 29, 32, 63, 64, 65, 66, 43, 44, 45, 46, 25, 27, 67, 68, 69, 70, 71, 72, 73, 74, 75, 76, 77, 87, 88, 89, 90, 91, 92, 93, 94, 95, 96, 97, 98, 99, 100, 101, 102] (by decide +kernel) (by decide +kernel)
set_option maxRecDepth 20000 in
theorem gX2_week_X0_endWeek : GoodIn wsX2_week (wsV RX2 91 RX0 yX0_endWeek wsX0_endWeek) := goodIn_app (goodIn_of _ (by decide +kernel)) ggX2_week_X0_endWeek
theorem dX2_week_0 : decode cX2_week 0 = .ok (.aload_n 0, 1) := by decide +kernel
theorem dX2_week_1 : decode cX2_week 1 = .ok (.getfield 10, 3) := by decide +kernel
theorem dX2_week_4 : decode cX2_week 4 = .ok (.invokevirtual 80, 3) := by decide +kernel
theorem dX2_week_7 : decode cX2_week 7 = .ok (.ifCond .ne 13, 3) := by decide +kernel
theorem dX2_week_10 : decode cX2_week 10 = .ok (.new 84, 3) := by decide +kernel
theorem dX2_week_13 : decode cX2_week 13 = .ok (.dup, 1) := by decide +kernel
theorem dX2_week_14 : decode cX2_week 14 = .ok (.ldc 86, 2) := by decide +kernel
theorem dX2_week_16 : decode cX2_week 16 = .ok (.invokespecial 88, 3) := by decide +kernel
theorem dX2_week_19 : decode cX2_week 19 = .ok (.athrow, 1) := by decide +kernel
theorem dX2_week_20 : decode cX2_week 20 = .ok (.aload_n 0, 1) := by decide +kernel
theorem dX2_week_21 : decode cX2_week 21 = .ok (.invokevirtual 49, 3) := by decide +kernel
theorem dX2_week_24 : decode cX2_week 24 = .ok (.aload_n 0, 1) := by decide +kernel
theorem dX2_week_25 : decode cX2_week 25 = .ok (.getfield 10, 3) := by decide +kernel
theorem dX2_week_28 : decode cX2_week 28 = .ok (.invokevirtual 91, 3) := by decide +kernel
theorem dX2_week_31 : decode cX2_week 31 = .ok (.ireturn, 1) := by decide +kernel
set_option maxRecDepth 20000 in
theorem ggX2_pass_X2_checkRange : GoodIn wsX2_pass wsX2_checkRange := goodIn_ca (goodIn_r _ [7, 8, 9] (by decide +kernel) (by decide +kernel)) (goodIn_sub (fun _ h => List.mem_cons_of_mem _ (List.mem_append_right _ h)) (by decide +kernel))
set_option maxRecDepth 20000 in
theorem gX2_pass_X2_checkRange : GoodIn wsX2_pass (va_wsS RX2 70 yX2_checkRange wsX2_checkRange) := goodIn_app (goodIn_of _ (by decide +kernel)) ggX2_pass_X2_checkRange
set_option maxRecDepth 20000 in
theorem ggX2_pass_X0_canAddDays : GoodIn wsX2_pass wsX0_canAddDays := goodIn_r _ [14, 15, 16, 17, 18, 70, 71, 72, 73, 74, 75, 76, 77, 78, 79, 80, 81, 82, 83, 84, 85] (by decide +kernel) (by decide +kernel)
set_option maxRecDepth 20000 in
theorem gX2_pass_X0_canAddDays : GoodIn wsX2_pass (wsV RX2 95 RX0 yX0_canAddDays wsX0_canAddDays) := goodIn_app (goodIn_of _ (by decide +kernel)) ggX2_pass_X0_canAddDays
set_option maxRecDepth 20000 in
theorem ggX2_pass_X2_saveState : GoodIn wsX2_pass wsX2_saveState := goodIn_r _ [22, 23, 24, 3, 25, 26, 27, 6, 28, 29, 30, 31, 13, 32, 17, 16, 33, 34, 35, 36, 37, 38, 39, 40, 41, 42, 43, 15, 44, 45, 46, 47, 48, 49, 50, 51, 52, 53, 54, 55, 56, 61, 62, 63, 64, 65, 66, 67, 68, 69, 70, 71, 72, 73, 74, 75, 76, 77, 78, 79, 80, 81, 82, 83, 84, 85] (by decide +kernel) (by decide +kernel)
set_option maxRecDepth 20000 in
theorem gX2_pass_X2_saveState : GoodIn wsX2_pass (wsV RX2 49 RX2 yX2_saveState wsX2_saveState) := goodIn_app (goodIn_of _ (by decide +kernel)) ggX2_pass_X2_saveState
set_option maxRecDepth 20000 in
theorem ggX2_pass_X0_addDays : GoodIn wsX2_pass wsX0_addDays := goodIn_r _ [60, 16, 17, 15, 70, 71, 72, 73, 74, 75, 76, 77, 78, 79, 80, 81, 82, 83, 84, 85] (by decide +kernel) (by decide +kernel)
set_option maxRecDepth 20000 in
theorem gX2_pass_X0_addDays : GoodIn wsX2_pass (wsV RX2 101 RX0 yX0_addDays wsX0_addDays) := goodIn_app (goodIn_of _ (by decide +kernel)) ggX2_pass_X0_addDays
theorem dX2_pass_0 : decode cX2_pass 0 = .ok (.iload_n 1, 1) := by decide +kernel
theorem dX2_pass_1 : decode cX2_pass 1 = .ok (.iconst 1, 1) := by decide +kernel
theorem dX2_pass_2 : decode cX2_pass 2 = .ok (.bipush 99, 2) := by decide +kernel
theorem dX2_pass_4 : decode cX2_pass 4 = .ok (.invokestatic 70, 3) := by decide +kernel
theorem dX2_pass_7 : decode cX2_pass 7 = .ok (.aload_n 0, 1) := by decide +kernel
theorem dX2_pass_8 : decode cX2_pass 8 = .ok (.getfield 10, 3) := by decide +kernel
theorem dX2_pass_11 : decode cX2_pass 11 = .ok (.iload_n 1, 1) := by decide +kernel
theorem dX2_pass_12 : decode cX2_pass 12 = .ok (.invokevirtual 95, 3) := by decide +kernel
theorem dX2_pass_15 : decode cX2_pass 15 = .ok (.ifCond .ne 13, 3) := by decide +kernel
theorem dX2_pass_18 : decode cX2_pass 18 = .ok (.new 84, 3) := by decide +kernel
theorem dX2_pass_21 : decode cX2_pass 21 = .ok (.dup, 1) := by decide +kernel
theorem dX2_pass_22 : decode cX2_pass 22 = .ok (.ldc 99, 2) := by decide +kernel
theorem dX2_pass_24 : decode cX2_pass 24 = .ok (.invokespecial 88, 3) := by decide +kernel
theorem dX2_pass_27 : decode cX2_pass 27 = .ok (.athrow, 1) := by decide +kernel
theorem dX2_pass_28 : decode cX2_pass 28 = .ok (.aload_n 0, 1) := by decide +kernel
theorem dX2_pass_29 : decode cX2_pass 29 = .ok (.invokevirtual 49, 3) := by decide +kernel
theorem dX2_pass_32 : decode cX2_pass 32 = .ok (.aload_n 0, 1) := by decide +kernel
theorem dX2_pass_33 : decode cX2_pass 33 = .ok (.getfield 10, 3) := by decide +kernel
theorem dX2_pass_36 : decode cX2_pass 36 = .ok (.iload_n 1, 1) := by decide +kernel
theorem dX2_pass_37 : decode cX2_pass 37 = .ok (.invokevirtual 101, 3) := by decide +kernel
theorem dX2_pass_40 : decode cX2_pass 40 = .ok (.ireturn, 1) := by decide +kernel
set_option maxRecDepth 20000 in
theorem ggX2_dividend_X2_saveState : GoodIn wsX2_dividend wsX2_saveState := goodIn_r _ [6, 7, 8, 1, 9, 10, 11, 5, 12, 13, 14, 15, 16, 17, 18, 19, 20, 21, 22, 23, 24, 25, 26, 27, 28, 29, 30, 31, 32, 33, 34, 35, 36, 37, 38, 39, 40, 41, 42, 43, 44, 57, 58, 59, 60, 61, 62, 63, 64, 65, 66, 67, 68, 69, 70, 71, 72, 73, 74, 75, 76, 77, 78, 79, 80, 81] (by decide +kernel) (by decide +kernel)
set_option maxRecDepth 20000 in
theorem gX2_dividend_X2_saveState : GoodIn wsX2_dividend (wsV RX2 49 RX2 yX2_saveState wsX2_saveState) := goodIn_app (goodIn_of _ (by decide +kernel)) ggX2_dividend_X2_saveState
set_option maxRecDepth 20000 in
theorem ggX2_dividend_X0_shareOut : GoodIn wsX2_dividend wsX0_shareOut := goodIn_r _ [48, 32, 18, 19, 27, 33, 49, 50, 51, 16, 52, 53, 54, 55, 56, 66, 67, 68, 69, 70, 71, 72, 73, 74, 75, 76, 77, 78, 79, 80, 81] (by decide +kernel) (by decide +kernel)
set_option maxRecDepth 20000 in
theorem gX2_dividend_X0_shareOut : GoodIn wsX2_dividend (wsV RX2 105 RX0 yX0_shareOut wsX0_shareOut) := goodIn_app (goodIn_of _ (by decide +kernel)) ggX2_dividend_X0_shareOut
theorem dX2_dividend_0 : decode cX2_dividend 0 = .ok (.aload_n 0, 1) := by decide +kernel
theorem dX2_dividend_1 : decode cX2_dividend 1 = .ok (.invokevirtual 49, 3) := by decide +kernel
theorem dX2_dividend_4 : decode cX2_dividend 4 = .ok (.aload_n 0, 1) := by decide +kernel
theorem dX2_dividend_5 : decode cX2_dividend 5 = .ok (.getfield 10, 3) := by decide +kernel
theorem dX2_dividend_8 : decode cX2_dividend 8 = .ok (.invokevirtual 105, 3) := by decide +kernel
theorem dX2_dividend_11 : decode cX2_dividend 11 = .ok (.ireturn, 1) := by decide +kernel
set_option maxRecDepth 20000 in
theorem ggX2_set_X2_checkSetting : GoodIn wsX2_set wsX2_checkSetting := goodIn_ca (goodIn_r _ [6, 7, 8] (by decide +kernel) (by decide +kernel)) (goodIn_sub (fun _ h => List.mem_cons_of_mem _ (List.mem_append_left _ (List.mem_append_right _ h))) (by decide +kernel))
set_option maxRecDepth 20000 in
theorem gX2_set_X2_checkSetting : GoodIn wsX2_set (va_wsS RX2 108 yX2_checkSetting wsX2_checkSetting) := goodIn_app (goodIn_of _ (by decide +kernel)) ggX2_set_X2_checkSetting
set_option maxRecDepth 20000 in
theorem ggX2_set_X2_checkRange : GoodIn wsX2_set wsX2_checkRange := goodIn_ca (goodIn_r _ [11, 12, 13] (by decide +kernel) (by decide +kernel)) (goodIn_sub (fun _ h => List.mem_cons_of_mem _ (List.mem_append_right _ h)) (by decide +kernel))
set_option maxRecDepth 20000 in
theorem gX2_set_X2_checkRange : GoodIn wsX2_set (va_wsS RX2 70 yX2_checkRange wsX2_checkRange) := goodIn_app (goodIn_of _ (by decide +kernel)) ggX2_set_X2_checkRange
set_option maxRecDepth 20000 in
theorem ggX2_set_X2_saveState : GoodIn wsX2_set wsX2_saveState := goodIn_r _ [17, 18, 19, 1, 20, 21, 22, 5, 23, 24, 25, 26, 27, 28, 29, 30, 31, 32, 33, 34, 35, 36, 37, 38, 39, 40, 41, 42, 43, 44, 45, 46, 47, 48, 49, 50, 51, 52, 53, 54, 55, 56, 57, 58, 59, 60, 61, 62, 63, 64, 65, 66, 67, 68, 69, 70, 71, 72, 73, 74, 75, 76, 77, 78, 79, 80] (by decide +kernel) (by decide +kernel)
set_option maxRecDepth 20000 in
theorem gX2_set_X2_saveState : GoodIn wsX2_set (wsV RX2 49 RX2 yX2_saveState wsX2_saveState) := goodIn_app (goodIn_of _ (by decide +kernel)) ggX2_set_X2_saveState
theorem dX2_set_0 : decode cX2_set 0 = .ok (.iload_n 1, 1) := by decide +kernel
theorem dX2_set_1 : decode cX2_set 1 = .ok (.invokestatic 108, 3) := by decide +kernel
theorem dX2_set_4 : decode cX2_set 4 = .ok (.iload_n 1, 1) := by decide +kernel
theorem dX2_set_5 : decode cX2_set 5 = .ok (.ifCond .ne 13, 3) := by decide +kernel
theorem dX2_set_8 : decode cX2_set 8 = .ok (.iload_n 2, 1) := by decide +kernel
theorem dX2_set_9 : decode cX2_set 9 = .ok (.iconst 0, 1) := by decide +kernel
theorem dX2_set_10 : decode cX2_set 10 = .ok (.bipush 100, 2) := by decide +kernel
theorem dX2_set_12 : decode cX2_set 12 = .ok (.invokestatic 70, 3) := by decide +kernel
theorem dX2_set_15 : decode cX2_set 15 = .ok (.goto 9, 3) := by decide +kernel
theorem dX2_set_18 : decode cX2_set 18 = .ok (.iload_n 2, 1) := by decide +kernel
theorem dX2_set_19 : decode cX2_set 19 = .ok (.iconst 1, 1) := by decide +kernel
theorem dX2_set_20 : decode cX2_set 20 = .ok (.iconst 5, 1) := by decide +kernel
theorem dX2_set_21 : decode cX2_set 21 = .ok (.invokestatic 70, 3) := by decide +kernel
theorem dX2_set_24 : decode cX2_set 24 = .ok (.aload_n 0, 1) := by decide +kernel
theorem dX2_set_25 : decode cX2_set 25 = .ok (.invokevirtual 49, 3) := by decide +kernel
theorem dX2_set_28 : decode cX2_set 28 = .ok (.aload_n 0, 1) := by decide +kernel
theorem dX2_set_29 : decode cX2_set 29 = .ok (.getfield 10, 3) := by decide +kernel
theorem dX2_set_32 : decode cX2_set 32 = .ok (.getfield 111, 3) := by decide +kernel
theorem dX2_set_35 : decode cX2_set 35 = .ok (.iload_n 1, 1) := by decide +kernel
theorem dX2_set_36 : decode cX2_set 36 = .ok (.iaload, 1) := by decide +kernel
theorem dX2_set_37 : decode cX2_set 37 = .ok (.istore_n 3, 1) := by decide +kernel
theorem dX2_set_38 : decode cX2_set 38 = .ok (.aload_n 0, 1) := by decide +kernel
theorem dX2_set_39 : decode cX2_set 39 = .ok (.getfield 10, 3) := by decide +kernel
theorem dX2_set_42 : decode cX2_set 42 = .ok (.getfield 111, 3) := by decide +kernel
theorem dX2_set_45 : decode cX2_set 45 = .ok (.iload_n 1, 1) := by decide +kernel
theorem dX2_set_46 : decode cX2_set 46 = .ok (.iload_n 2, 1) := by decide +kernel
theorem dX2_set_47 : decode cX2_set 47 = .ok (.iastore, 1) := by decide +kernel
theorem dX2_set_48 : decode cX2_set 48 = .ok (.iload_n 3, 1) := by decide +kernel
theorem dX2_set_49 : decode cX2_set 49 = .ok (.ireturn, 1) := by decide +kernel
set_option maxRecDepth 20000 in
theorem ggX2_keep_X2_checkRange : GoodIn wsX2_keep wsX2_checkRange := goodIn_ca (goodIn_r _ [7, 8, 9] (by decide +kernel) (by decide +kernel)) (goodIn_sub (fun _ h => List.mem_cons_of_mem _ (List.mem_append_right _ h)) (by decide +kernel))
set_option maxRecDepth 20000 in
theorem gX2_keep_X2_checkRange : GoodIn wsX2_keep (va_wsS RX2 70 yX2_checkRange wsX2_checkRange) := goodIn_app (goodIn_of _ (by decide +kernel)) ggX2_keep_X2_checkRange
set_option maxRecDepth 20000 in
theorem ggX2_keep_X0_copyFrom : GoodIn wsX2_keep wsX0_copyFrom := goodIn_r _ [14, 15, 16, 17, 18, 19, 20, 21, 22, 23, 24, 25, 26, 27, 28, 29, 30, 31, 32, 13, 33, 34, 35, 36, 37, 38, 39, 40, 41, 59, 60, 61, 62, 63, 64, 65, 66, 67, 68, 69, 70, 71, 72, 73, 74] (by decide +kernel) (by decide +kernel)
set_option maxRecDepth 20000 in
theorem gX2_keep_X0_copyFrom : GoodIn wsX2_keep (wsV RX2 134 RX0 yX0_copyFrom wsX0_copyFrom) := goodIn_app (goodIn_of _ (by decide +kernel)) ggX2_keep_X0_copyFrom
set_option maxRecDepth 20000 in
theorem ggX2_keep_X0_loans : GoodIn wsX2_keep wsX0_loans := goodIn_r _ [45, 46, 47, 48, 13, 49, 18, 59, 60, 61, 62, 63, 64, 65, 66, 67, 68, 69, 70, 71, 72, 73, 74] (by decide +kernel) (by decide +kernel)
set_option maxRecDepth 20000 in
theorem gX2_keep_X0_loans : GoodIn wsX2_keep (wsV RX2 138 RX0 yX0_loans wsX0_loans) := goodIn_app (goodIn_of _ (by decide +kernel)) ggX2_keep_X0_loans
theorem dX2_keep_0 : decode cX2_keep 0 = .ok (.iload_n 1, 1) := by decide +kernel
theorem dX2_keep_1 : decode cX2_keep 1 = .ok (.iconst 0, 1) := by decide +kernel
theorem dX2_keep_2 : decode cX2_keep 2 = .ok (.iconst 1, 1) := by decide +kernel
theorem dX2_keep_3 : decode cX2_keep 3 = .ok (.invokestatic 70, 3) := by decide +kernel
theorem dX2_keep_6 : decode cX2_keep 6 = .ok (.aload_n 0, 1) := by decide +kernel
theorem dX2_keep_7 : decode cX2_keep 7 = .ok (.getfield 20, 3) := by decide +kernel
theorem dX2_keep_10 : decode cX2_keep 10 = .ok (.iload_n 1, 1) := by decide +kernel
theorem dX2_keep_11 : decode cX2_keep 11 = .ok (.aaload, 1) := by decide +kernel
theorem dX2_keep_12 : decode cX2_keep 12 = .ok (.aload_n 0, 1) := by decide +kernel
theorem dX2_keep_13 : decode cX2_keep 13 = .ok (.getfield 10, 3) := by decide +kernel
theorem dX2_keep_16 : decode cX2_keep 16 = .ok (.invokevirtual 134, 3) := by decide +kernel
theorem dX2_keep_19 : decode cX2_keep 19 = .ok (.aload_n 0, 1) := by decide +kernel
theorem dX2_keep_20 : decode cX2_keep 20 = .ok (.getfield 23, 3) := by decide +kernel
theorem dX2_keep_23 : decode cX2_keep 23 = .ok (.iload_n 1, 1) := by decide +kernel
theorem dX2_keep_24 : decode cX2_keep 24 = .ok (.iconst 1, 1) := by decide +kernel
theorem dX2_keep_25 : decode cX2_keep 25 = .ok (.bastore, 1) := by decide +kernel
theorem dX2_keep_26 : decode cX2_keep 26 = .ok (.aload_n 0, 1) := by decide +kernel
theorem dX2_keep_27 : decode cX2_keep 27 = .ok (.getfield 10, 3) := by decide +kernel
theorem dX2_keep_30 : decode cX2_keep 30 = .ok (.invokevirtual 138, 3) := by decide +kernel
theorem dX2_keep_33 : decode cX2_keep 33 = .ok (.ireturn, 1) := by decide +kernel
set_option maxRecDepth 20000 in
theorem ggX2_goBack_X2_checkRange : GoodIn wsX2_goBack wsX2_checkRange := goodIn_ca (goodIn_r _ [9, 10, 11] (by decide +kernel) (by decide +kernel)) (goodIn_sub (fun _ h => List.mem_cons_of_mem _ (List.mem_append_right _ h)) (by decide +kernel))
set_option maxRecDepth 20000 in
theorem gX2_goBack_X2_checkRange : GoodIn wsX2_goBack (va_wsS RX2 70 yX2_checkRange wsX2_checkRange) := goodIn_app (goodIn_of _ (by decide +kernel)) ggX2_goBack_X2_checkRange
set_option maxRecDepth 20000 in
theorem ggX2_goBack_X2_saveState : GoodIn wsX2_goBack wsX2_saveState := goodIn_r _ [15, 16, 17, 4, 18, 19, 20, 8, 21, 22, 23, 24, 25, 26, 27, 28, 29, 30, 31, 32, 33, 34, 35, 36, 37, 38, 39, 40, 41, 42, 43, 44, 45, 46, 47, 48, 49, 50, 51, 52, 53, 62, 63, 64, 65, 66, 67, 68, 69, 70, 71, 72, 73, 74, 75, 76, 77, 78, 79, 80, 81, 82, 83, 84, 85, 86] (by decide +kernel) (by decide +kernel)
set_option maxRecDepth 20000 in
theorem gX2_goBack_X2_saveState : GoodIn wsX2_goBack (wsV RX2 49 RX2 yX2_saveState wsX2_saveState) := goodIn_app (goodIn_of _ (by decide +kernel)) ggX2_goBack_X2_saveState
set_option maxRecDepth 20000 in
theorem ggX2_goBack_X0_copyFrom : GoodIn wsX2_goBack wsX0_copyFrom := goodIn_r _ [26, 27, 28, 29, 30, 31, 32, 33, 34, 35, 36, 37, 38, 39, 40, 41, 42, 43, 44, 25, 45, 46, 47, 48, 49, 50, 51, 52, 53, 71, 72, 73, 74, 75, 76, 77, 78, 79, 80, 81, 82, 83, 84, 85, 86] (by decide +kernel) (by decide +kernel)
set_option maxRecDepth 20000 in
theorem gX2_goBack_X0_copyFrom : GoodIn wsX2_goBack (wsV RX2 134 RX0 yX0_copyFrom wsX0_copyFrom) := goodIn_app (goodIn_of _ (by decide +kernel)) ggX2_goBack_X0_copyFrom
set_option maxRecDepth 20000 in
theorem ggX2_goBack_X0_loans : GoodIn wsX2_goBack wsX0_loans := goodIn_r _ [57, 58, 59, 60, 25, 61, 30, 71, 72, 73, 74, 75, 76, 77, 78, 79, 80, 81, 82, 83, 84, 85, 86] (by decide +kernel) (by decide +kernel)
set_option maxRecDepth 20000 in
theorem gX2_goBack_X0_loans : GoodIn wsX2_goBack (wsV RX2 138 RX0 yX0_loans wsX0_loans) := goodIn_app (goodIn_of _ (by decide +kernel)) ggX2_goBack_X0_loans
theorem dX2_goBack_0 : decode cX2_goBack 0 = .ok (.iload_n 1, 1) := by decide +kernel
theorem dX2_goBack_1 : decode cX2_goBack 1 = .ok (.iconst 0, 1) := by decide +kernel
theorem dX2_goBack_2 : decode cX2_goBack 2 = .ok (.iconst 1, 1) := by decide +kernel
theorem dX2_goBack_3 : decode cX2_goBack 3 = .ok (.invokestatic 70, 3) := by decide +kernel
theorem dX2_goBack_6 : decode cX2_goBack 6 = .ok (.aload_n 0, 1) := by decide +kernel
theorem dX2_goBack_7 : decode cX2_goBack 7 = .ok (.getfield 23, 3) := by decide +kernel
theorem dX2_goBack_10 : decode cX2_goBack 10 = .ok (.iload_n 1, 1) := by decide +kernel
theorem dX2_goBack_11 : decode cX2_goBack 11 = .ok (.baload, 1) := by decide +kernel
theorem dX2_goBack_12 : decode cX2_goBack 12 = .ok (.ifCond .ne 13, 3) := by decide +kernel
theorem dX2_goBack_15 : decode cX2_goBack 15 = .ok (.new 84, 3) := by decide +kernel
theorem dX2_goBack_18 : decode cX2_goBack 18 = .ok (.dup, 1) := by decide +kernel
theorem dX2_goBack_19 : decode cX2_goBack 19 = .ok (.ldc 141, 2) := by decide +kernel
theorem dX2_goBack_21 : decode cX2_goBack 21 = .ok (.invokespecial 88, 3) := by decide +kernel
theorem dX2_goBack_24 : decode cX2_goBack 24 = .ok (.athrow, 1) := by decide +kernel
theorem dX2_goBack_25 : decode cX2_goBack 25 = .ok (.aload_n 0, 1) := by decide +kernel
theorem dX2_goBack_26 : decode cX2_goBack 26 = .ok (.invokevirtual 49, 3) := by decide +kernel
theorem dX2_goBack_29 : decode cX2_goBack 29 = .ok (.aload_n 0, 1) := by decide +kernel
theorem dX2_goBack_30 : decode cX2_goBack 30 = .ok (.getfield 10, 3) := by decide +kernel
theorem dX2_goBack_33 : decode cX2_goBack 33 = .ok (.aload_n 0, 1) := by decide +kernel
theorem dX2_goBack_34 : decode cX2_goBack 34 = .ok (.getfield 20, 3) := by decide +kernel
theorem dX2_goBack_37 : decode cX2_goBack 37 = .ok (.iload_n 1, 1) := by decide +kernel
theorem dX2_goBack_38 : decode cX2_goBack 38 = .ok (.aaload, 1) := by decide +kernel
theorem dX2_goBack_39 : decode cX2_goBack 39 = .ok (.invokevirtual 134, 3) := by decide +kernel
theorem dX2_goBack_42 : decode cX2_goBack 42 = .ok (.aload_n 0, 1) := by decide +kernel
theorem dX2_goBack_43 : decode cX2_goBack 43 = .ok (.getfield 10, 3) := by decide +kernel
theorem dX2_goBack_46 : decode cX2_goBack 46 = .ok (.invokevirtual 138, 3) := by decide +kernel
theorem dX2_goBack_49 : decode cX2_goBack 49 = .ok (.ireturn, 1) := by decide +kernel
set_option maxRecDepth 20000 in
theorem ggX2_undo_X0_copyFrom : GoodIn wsX2_undo wsX0_copyFrom := goodIn_r _ [10, 11, 12, 13, 14, 15, 16, 17, 18, 19, 20, 21, 22, 23, 24, 25, 26, 27, 28, 9, 29, 30, 31, 32, 33, 34, 35, 36, 37, 47, 48, 49, 50, 51, 52, 53, 54, 55, 56, 57, 58, 59, 60, 61, 62] (by decide +kernel) (by decide +kernel)
set_option maxRecDepth 20000 in
theorem gX2_undo_X0_copyFrom : GoodIn wsX2_undo (wsV RX2 134 RX0 yX0_copyFrom wsX0_copyFrom) := goodIn_app (goodIn_of _ (by decide +kernel)) ggX2_undo_X0_copyFrom
theorem dX2_undo_0 : decode cX2_undo 0 = .ok (.aload_n 0, 1) := by decide +kernel
theorem dX2_undo_1 : decode cX2_undo 1 = .ok (.getfield 143, 3) := by decide +kernel
theorem dX2_undo_4 : decode cX2_undo 4 = .ok (.iconst 1, 1) := by decide +kernel
theorem dX2_undo_5 : decode cX2_undo 5 = .ok (.if_icmp .ge 13, 3) := by decide +kernel
theorem dX2_undo_8 : decode cX2_undo 8 = .ok (.new 84, 3) := by decide +kernel
theorem dX2_undo_11 : decode cX2_undo 11 = .ok (.dup, 1) := by decide +kernel
theorem dX2_undo_12 : decode cX2_undo 12 = .ok (.ldc 146, 2) := by decide +kernel
theorem dX2_undo_14 : decode cX2_undo 14 = .ok (.invokespecial 88, 3) := by decide +kernel
theorem dX2_undo_17 : decode cX2_undo 17 = .ok (.athrow, 1) := by decide +kernel
theorem dX2_undo_18 : decode cX2_undo 18 = .ok (.aload_n 0, 1) := by decide +kernel
theorem dX2_undo_19 : decode cX2_undo 19 = .ok (.dup, 1) := by decide +kernel
theorem dX2_undo_20 : decode cX2_undo 20 = .ok (.getfield 143, 3) := by decide +kernel
theorem dX2_undo_23 : decode cX2_undo 23 = .ok (.iconst 1, 1) := by decide +kernel
theorem dX2_undo_24 : decode cX2_undo 24 = .ok (.isub, 1) := by decide +kernel
theorem dX2_undo_25 : decode cX2_undo 25 = .ok (.putfield 143, 3) := by decide +kernel
theorem dX2_undo_28 : decode cX2_undo 28 = .ok (.aload_n 0, 1) := by decide +kernel
theorem dX2_undo_29 : decode cX2_undo 29 = .ok (.getfield 10, 3) := by decide +kernel
theorem dX2_undo_32 : decode cX2_undo 32 = .ok (.aload_n 0, 1) := by decide +kernel
theorem dX2_undo_33 : decode cX2_undo 33 = .ok (.getfield 16, 3) := by decide +kernel
theorem dX2_undo_36 : decode cX2_undo 36 = .ok (.aload_n 0, 1) := by decide +kernel
theorem dX2_undo_37 : decode cX2_undo 37 = .ok (.getfield 143, 3) := by decide +kernel
theorem dX2_undo_40 : decode cX2_undo 40 = .ok (.aaload, 1) := by decide +kernel
theorem dX2_undo_41 : decode cX2_undo 41 = .ok (.invokevirtual 134, 3) := by decide +kernel
theorem dX2_undo_44 : decode cX2_undo 44 = .ok (.aload_n 0, 1) := by decide +kernel
theorem dX2_undo_45 : decode cX2_undo 45 = .ok (.getfield 143, 3) := by decide +kernel
theorem dX2_undo_48 : decode cX2_undo 48 = .ok (.ireturn, 1) := by decide +kernel
set_option maxRecDepth 20000 in
theorem ggX2_memberOf_X2_checkMember : GoodIn wsX2_memberOf wsX2_checkMember := goodIn_ca (goodIn_r _ [5, 6, 7] (by decide +kernel) (by decide +kernel)) (goodIn_sub (fun _ h => List.mem_cons_of_mem _ (List.mem_append_left _ (List.mem_append_right _ h))) (by decide +kernel))
set_option maxRecDepth 20000 in
theorem gX2_memberOf_X2_checkMember : GoodIn wsX2_memberOf (va_wsS RX2 42 yX2_checkMember wsX2_checkMember) := goodIn_app (goodIn_of _ (by decide +kernel)) ggX2_memberOf_X2_checkMember
set_option maxRecDepth 20000 in
theorem ggX2_memberOf_X2_checkRange : GoodIn wsX2_memberOf wsX2_checkRange := goodIn_ca (goodIn_r _ [10, 11, 12] (by decide +kernel) (by decide +kernel)) (goodIn_sub (fun _ h => List.mem_cons_of_mem _ (List.mem_append_right _ h)) (by decide +kernel))
set_option maxRecDepth 20000 in
theorem gX2_memberOf_X2_checkRange : GoodIn wsX2_memberOf (va_wsS RX2 70 yX2_checkRange wsX2_checkRange) := goodIn_app (goodIn_of _ (by decide +kernel)) ggX2_memberOf_X2_checkRange
set_option maxRecDepth 20000 in
theorem ggX2_memberOf_X0_property : GoodIn wsX2_memberOf wsX0_property := goodIn_r _ [17, 18, 19, 20, 21, 22, 23, 24, 25, 26, 16, 27, 28, 29, 30, 31, 32, 33, 34, 35, 36, 37, 38, 39, 40, 41, 42, 43, 44, 45, 46, 47, 48, 49, 50, 51, 52, 62, 63, 64, 65, 66, 67, 68, 69, 70, 71, 72, 73, 74, 75, 76, 77] (by decide +kernel) (by decide +kernel)
set_option maxRecDepth 20000 in
theorem gX2_memberOf_X0_property : GoodIn wsX2_memberOf (wsV RX2 148 RX0 yX0_property wsX0_property) := goodIn_app (goodIn_of _ (by decide +kernel)) ggX2_memberOf_X0_property
theorem dX2_memberOf_0 : decode cX2_memberOf 0 = .ok (.iload_n 1, 1) := by decide +kernel
theorem dX2_memberOf_1 : decode cX2_memberOf 1 = .ok (.invokestatic 42, 3) := by decide +kernel
theorem dX2_memberOf_4 : decode cX2_memberOf 4 = .ok (.iload_n 2, 1) := by decide +kernel
theorem dX2_memberOf_5 : decode cX2_memberOf 5 = .ok (.iconst 0, 1) := by decide +kernel
theorem dX2_memberOf_6 : decode cX2_memberOf 6 = .ok (.bipush 9, 2) := by decide +kernel
theorem dX2_memberOf_8 : decode cX2_memberOf 8 = .ok (.invokestatic 70, 3) := by decide +kernel
theorem dX2_memberOf_11 : decode cX2_memberOf 11 = .ok (.aload_n 0, 1) := by decide +kernel
theorem dX2_memberOf_12 : decode cX2_memberOf 12 = .ok (.getfield 10, 3) := by decide +kernel
theorem dX2_memberOf_15 : decode cX2_memberOf 15 = .ok (.iload_n 1, 1) := by decide +kernel
theorem dX2_memberOf_16 : decode cX2_memberOf 16 = .ok (.iload_n 2, 1) := by decide +kernel
theorem dX2_memberOf_17 : decode cX2_memberOf 17 = .ok (.invokevirtual 148, 3) := by decide +kernel
theorem dX2_memberOf_20 : decode cX2_memberOf 20 = .ok (.ireturn, 1) := by decide +kernel
set_option maxRecDepth 20000 in
theorem ggX2_pledged_X2_checkMember : GoodIn wsX2_pledged wsX2_checkMember := goodIn_ca (goodIn_r _ [6, 7, 8] (by decide +kernel) (by decide +kernel)) (goodIn_sub (fun _ h => List.mem_cons_of_mem _ (List.mem_append_right _ h)) (by decide +kernel))
set_option maxRecDepth 20000 in
theorem gX2_pledged_X2_checkMember : GoodIn wsX2_pledged (va_wsS RX2 42 yX2_checkMember wsX2_checkMember) := goodIn_app (goodIn_of _ (by decide +kernel)) ggX2_pledged_X2_checkMember
set_option maxRecDepth 20000 in
theorem ggX2_pledged_X0_place : GoodIn wsX2_pledged wsX0_place := goodIn_r _ [12] (by decide +kernel) (by decide +kernel)
set_option maxRecDepth 20000 in
theorem gX2_pledged_X0_place : GoodIn wsX2_pledged (va_wsS RX2 154 yX0_place wsX0_place) := goodIn_app (goodIn_of _ (by decide +kernel)) ggX2_pledged_X0_place
theorem dX2_pledged_0 : decode cX2_pledged 0 = .ok (.iload_n 1, 1) := by decide +kernel
theorem dX2_pledged_1 : decode cX2_pledged 1 = .ok (.invokestatic 42, 3) := by decide +kernel
theorem dX2_pledged_4 : decode cX2_pledged 4 = .ok (.iload_n 2, 1) := by decide +kernel
theorem dX2_pledged_5 : decode cX2_pledged 5 = .ok (.invokestatic 42, 3) := by decide +kernel
theorem dX2_pledged_8 : decode cX2_pledged 8 = .ok (.aload_n 0, 1) := by decide +kernel
theorem dX2_pledged_9 : decode cX2_pledged 9 = .ok (.getfield 10, 3) := by decide +kernel
theorem dX2_pledged_12 : decode cX2_pledged 12 = .ok (.getfield 151, 3) := by decide +kernel
theorem dX2_pledged_15 : decode cX2_pledged 15 = .ok (.iload_n 1, 1) := by decide +kernel
theorem dX2_pledged_16 : decode cX2_pledged 16 = .ok (.iload_n 2, 1) := by decide +kernel
theorem dX2_pledged_17 : decode cX2_pledged 17 = .ok (.invokestatic 154, 3) := by decide +kernel
theorem dX2_pledged_20 : decode cX2_pledged 20 = .ok (.iaload, 1) := by decide +kernel
theorem dX2_pledged_21 : decode cX2_pledged 21 = .ok (.ireturn, 1) := by decide +kernel
set_option maxRecDepth 20000 in
theorem ggX2_count_X2_checkRange : GoodIn wsX2_count wsX2_checkRange := goodIn_ca (goodIn_r _ [4, 5, 6] (by decide +kernel) (by decide +kernel)) (goodIn_sub (fun _ h => List.mem_cons_of_mem _ (List.mem_append_right _ h)) (by decide +kernel))
set_option maxRecDepth 20000 in
theorem gX2_count_X2_checkRange : GoodIn wsX2_count (va_wsS RX2 70 yX2_checkRange wsX2_checkRange) := goodIn_app (goodIn_of _ (by decide +kernel)) ggX2_count_X2_checkRange
set_option maxRecDepth 20000 in
theorem ggX2_count_X2_number : GoodIn wsX2_count wsX2_number := goodIn_r _ [10, 11, 12, 13, 14, 15, 16, 17, 18, 19, 20, 21, 22, 23, 24, 25, 26, 27, 28, 29, 30, 31, 32, 33, 34, 35, 36, 37, 38, 39, 40, 41, 42, 43, 44, 45, 46, 47, 48, 49, 50, 51, 52, 53, 54, 55, 56, 57, 58, 59, 60, 61, 62, 63, 64] (by decide +kernel) (by decide +kernel)
set_option maxRecDepth 20000 in
theorem gX2_count_X2_number : GoodIn wsX2_count (wsV RX2 157 RX2 yX2_number wsX2_number) := goodIn_app (goodIn_of _ (by decide +kernel)) ggX2_count_X2_number
theorem dX2_count_0 : decode cX2_count 0 = .ok (.iload_n 1, 1) := by decide +kernel
theorem dX2_count_1 : decode cX2_count 1 = .ok (.iconst 0, 1) := by decide +kernel
theorem dX2_count_2 : decode cX2_count 2 = .ok (.bipush 11, 2) := by decide +kernel
theorem dX2_count_4 : decode cX2_count 4 = .ok (.invokestatic 70, 3) := by decide +kernel
theorem dX2_count_7 : decode cX2_count 7 = .ok (.aload_n 0, 1) := by decide +kernel
theorem dX2_count_8 : decode cX2_count 8 = .ok (.iload_n 1, 1) := by decide +kernel
theorem dX2_count_9 : decode cX2_count 9 = .ok (.invokevirtual 157, 3) := by decide +kernel
theorem dX2_count_12 : decode cX2_count 12 = .ok (.ireturn, 1) := by decide +kernel
set_option maxRecDepth 20000 in
theorem ggX2_setting_X2_checkSetting : GoodIn wsX2_setting wsX2_checkSetting := goodIn_ca (goodIn_r _ [6, 7, 8] (by decide +kernel) (by decide +kernel)) (goodIn_sub (fun _ h => List.mem_cons_of_mem _ (List.mem_append_right _ h)) (by decide +kernel))
set_option maxRecDepth 20000 in
theorem gX2_setting_X2_checkSetting : GoodIn wsX2_setting (va_wsS RX2 108 yX2_checkSetting wsX2_checkSetting) := goodIn_app (goodIn_of _ (by decide +kernel)) ggX2_setting_X2_checkSetting
theorem dX2_setting_0 : decode cX2_setting 0 = .ok (.iload_n 1, 1) := by decide +kernel
theorem dX2_setting_1 : decode cX2_setting 1 = .ok (.invokestatic 108, 3) := by decide +kernel
theorem dX2_setting_4 : decode cX2_setting 4 = .ok (.aload_n 0, 1) := by decide +kernel
theorem dX2_setting_5 : decode cX2_setting 5 = .ok (.getfield 10, 3) := by decide +kernel
theorem dX2_setting_8 : decode cX2_setting 8 = .ok (.getfield 111, 3) := by decide +kernel
theorem dX2_setting_11 : decode cX2_setting 11 = .ok (.iload_n 1, 1) := by decide +kernel
theorem dX2_setting_12 : decode cX2_setting 12 = .ok (.iaload, 1) := by decide +kernel
theorem dX2_setting_13 : decode cX2_setting 13 = .ok (.ireturn, 1) := by decide +kernel
set_option maxRecDepth 20000 in
theorem ggX2_whyNot_X2_checkMember : GoodIn wsX2_whyNot wsX2_checkMember := goodIn_ca (goodIn_r _ [5, 6, 7] (by decide +kernel) (by decide +kernel)) (goodIn_sub (fun _ h => List.mem_cons_of_mem _ (List.mem_append_left _ (List.mem_append_right _ h))) (by decide +kernel))
set_option maxRecDepth 20000 in
theorem gX2_whyNot_X2_checkMember : GoodIn wsX2_whyNot (va_wsS RX2 42 yX2_checkMember wsX2_checkMember) := goodIn_app (goodIn_of _ (by decide +kernel)) ggX2_whyNot_X2_checkMember
set_option maxRecDepth 20000 in
theorem ggX2_whyNot_X2_checkAmount : GoodIn wsX2_whyNot wsX2_checkAmount := goodIn_ca (goodIn_r _ [10, 11, 12, 4, 13, 14, 15] (by decide +kernel) (by decide +kernel)) (goodIn_sub (fun _ h => List.mem_cons_of_mem _ (List.mem_append_right _ h)) (by decide +kernel))
set_option maxRecDepth 20000 in
theorem gX2_whyNot_X2_checkAmount : GoodIn wsX2_whyNot (va_wsS RX2 46 yX2_checkAmount wsX2_checkAmount) := goodIn_app (goodIn_of _ (by decide +kernel)) ggX2_whyNot_X2_checkAmount
set_option maxRecDepth 20000 in
theorem ggX2_whyNot_X0_whyNoLoan : GoodIn wsX2_whyNot wsX0_whyNoLoan := goodIn_r _ [20, 21, 22, 23, 19, 24, 25, 26, 27, 28, 29, 30, 31, 32, 33, 34, 35, 36, 37, 38, 39, 40, 41, 42, 43, 44, 45, 46, 47, 48, 49, 50, 51, 52, 53, 54, 55, 56, 57, 67, 68, 69, 70, 71, 72, 73, 74, 75, 76, 77, 78, 79, 80, 81, 82] (by decide +kernel) (by decide +kernel)
set_option maxRecDepth 20000 in
theorem gX2_whyNot_X0_whyNoLoan : GoodIn wsX2_whyNot (wsV RX2 160 RX0 yX0_whyNoLoan wsX0_whyNoLoan) := goodIn_app (goodIn_of _ (by decide +kernel)) ggX2_whyNot_X0_whyNoLoan
theorem dX2_whyNot_0 : decode cX2_whyNot 0 = .ok (.iload_n 1, 1) := by decide +kernel
theorem dX2_whyNot_1 : decode cX2_whyNot 1 = .ok (.invokestatic 42, 3) := by decide +kernel
theorem dX2_whyNot_4 : decode cX2_whyNot 4 = .ok (.iload_n 2, 1) := by decide +kernel
theorem dX2_whyNot_5 : decode cX2_whyNot 5 = .ok (.invokestatic 46, 3) := by decide +kernel
theorem dX2_whyNot_8 : decode cX2_whyNot 8 = .ok (.aload_n 0, 1) := by decide +kernel
theorem dX2_whyNot_9 : decode cX2_whyNot 9 = .ok (.getfield 10, 3) := by decide +kernel
theorem dX2_whyNot_12 : decode cX2_whyNot 12 = .ok (.iload_n 1, 1) := by decide +kernel
theorem dX2_whyNot_13 : decode cX2_whyNot 13 = .ok (.iload_n 2, 1) := by decide +kernel
theorem dX2_whyNot_14 : decode cX2_whyNot 14 = .ok (.invokevirtual 160, 3) := by decide +kernel
theorem dX2_whyNot_17 : decode cX2_whyNot 17 = .ok (.ireturn, 1) := by decide +kernel
set_option maxRecDepth 20000 in
theorem ggX2_greatest_X2_checkMember : GoodIn wsX2_greatest wsX2_checkMember := goodIn_ca (goodIn_r _ [4, 5, 6] (by decide +kernel) (by decide +kernel)) (goodIn_sub (fun _ h => List.mem_cons_of_mem _ (List.mem_append_left _ (List.mem_append_right _ h))) (by decide +kernel))
set_option maxRecDepth 20000 in
theorem gX2_greatest_X2_checkMember : GoodIn wsX2_greatest (va_wsS RX2 42 yX2_checkMember wsX2_checkMember) := goodIn_app (goodIn_of _ (by decide +kernel)) ggX2_greatest_X2_checkMember
set_option maxRecDepth 20000 in
theorem ggX2_greatest_X2_checkRange : GoodIn wsX2_greatest wsX2_checkRange := goodIn_ca (goodIn_r _ [9, 10, 11] (by decide +kernel) (by decide +kernel)) (goodIn_sub (fun _ h => List.mem_cons_of_mem _ (List.mem_append_right _ h)) (by decide +kernel))
set_option maxRecDepth 20000 in
theorem gX2_greatest_X2_checkRange : GoodIn wsX2_greatest (va_wsS RX2 70 yX2_checkRange wsX2_checkRange) := goodIn_app (goodIn_of _ (by decide +kernel)) ggX2_greatest_X2_checkRange
set_option maxRecDepth 20000 in
theorem ggX2_greatest_X2_greatestByHalving : GoodIn wsX2_greatest wsX2_greatestByHalving := goodIn_r _ [15, 16, 17, 18, 19, 20, 21, 22, 23, 24, 25, 26, 27, 28, 29, 30, 31, 32, 33, 34, 35, 36, 37, 38, 39, 40, 41, 42, 43, 44, 45, 46, 47, 48, 49, 50, 51, 52, 53, 54, 55, 56, 57, 58, 67, 68, 69, 70, 71, 72, 73, 74, 75, 76, 77, 78, 79, 80, 81, 82, 83, 84, 85, 86, 87, 88, 89, 90, 91] (by decide +kernel) (by decide +kernel)
set_option maxRecDepth 20000 in
theorem gX2_greatest_X2_greatestByHalving : GoodIn wsX2_greatest (wsV RX2 163 RX2 yX2_greatestByHalving wsX2_greatestByHalving) := goodIn_app (goodIn_of _ (by decide +kernel)) ggX2_greatest_X2_greatestByHalving
set_option maxRecDepth 20000 in
theorem ggX2_greatest_X2_greatestByAll : GoodIn wsX2_greatest wsX2_greatestByAll := goodIn_r _ [62, 16, 63, 23, 24, 20, 25, 26, 64, 28, 29, 30, 31, 65, 33, 34, 35, 36, 37, 38, 39, 40, 41, 42, 43, 44, 45, 46, 47, 48, 66, 50, 51, 52, 53, 54, 55, 56, 57, 58, 67, 68, 69, 70, 71, 72, 73, 74, 75, 76, 77, 78, 79, 80, 81, 82, 83, 84, 85, 86, 87, 88, 89, 90, 91] (by decide +kernel) (by decide +kernel)
set_option maxRecDepth 20000 in
theorem gX2_greatest_X2_greatestByAll : GoodIn wsX2_greatest (wsV RX2 166 RX2 yX2_greatestByAll wsX2_greatestByAll) := goodIn_app (goodIn_of _ (by decide +kernel)) ggX2_greatest_X2_greatestByAll
theorem dX2_greatest_0 : decode cX2_greatest 0 = .ok (.iload_n 1, 1) := by decide +kernel
theorem dX2_greatest_1 : decode cX2_greatest 1 = .ok (.invokestatic 42, 3) := by decide +kernel
theorem dX2_greatest_4 : decode cX2_greatest 4 = .ok (.iload_n 2, 1) := by decide +kernel
theorem dX2_greatest_5 : decode cX2_greatest 5 = .ok (.iconst 0, 1) := by decide +kernel
theorem dX2_greatest_6 : decode cX2_greatest 6 = .ok (.iconst 1, 1) := by decide +kernel
theorem dX2_greatest_7 : decode cX2_greatest 7 = .ok (.invokestatic 70, 3) := by decide +kernel
theorem dX2_greatest_10 : decode cX2_greatest 10 = .ok (.iload_n 2, 1) := by decide +kernel
theorem dX2_greatest_11 : decode cX2_greatest 11 = .ok (.ifCond .ne 11, 3) := by decide +kernel
theorem dX2_greatest_14 : decode cX2_greatest 14 = .ok (.aload_n 0, 1) := by decide +kernel
theorem dX2_greatest_15 : decode cX2_greatest 15 = .ok (.iload_n 1, 1) := by decide +kernel
theorem dX2_greatest_16 : decode cX2_greatest 16 = .ok (.invokevirtual 163, 3) := by decide +kernel
theorem dX2_greatest_19 : decode cX2_greatest 19 = .ok (.goto 8, 3) := by decide +kernel
theorem dX2_greatest_22 : decode cX2_greatest 22 = .ok (.aload_n 0, 1) := by decide +kernel
theorem dX2_greatest_23 : decode cX2_greatest 23 = .ok (.iload_n 1, 1) := by decide +kernel
theorem dX2_greatest_24 : decode cX2_greatest 24 = .ok (.invokevirtual 166, 3) := by decide +kernel
theorem dX2_greatest_27 : decode cX2_greatest 27 = .ok (.ireturn, 1) := by decide +kernel
set_option maxRecDepth 20000 in
theorem ggX2_guarantors_X2_checkMember : GoodIn wsX2_guarantors wsX2_checkMember := goodIn_ca (goodIn_r _ [4, 5, 6] (by decide +kernel) (by decide +kernel)) (goodIn_sub (fun _ h => List.mem_cons_of_mem _ (List.mem_append_left _ (List.mem_append_right _ h))) (by decide +kernel))
set_option maxRecDepth 20000 in
theorem gX2_guarantors_X2_checkMember : GoodIn wsX2_guarantors (va_wsS RX2 42 yX2_checkMember wsX2_checkMember) := goodIn_app (goodIn_of _ (by decide +kernel)) ggX2_guarantors_X2_checkMember
set_option maxRecDepth 20000 in
theorem ggX2_guarantors_X2_checkAmount : GoodIn wsX2_guarantors wsX2_checkAmount := goodIn_ca (goodIn_r _ [9, 10, 11, 3, 12, 13, 14] (by decide +kernel) (by decide +kernel)) (goodIn_sub (fun _ h => List.mem_cons_of_mem _ (List.mem_append_right _ h)) (by decide +kernel))
set_option maxRecDepth 20000 in
theorem gX2_guarantors_X2_checkAmount : GoodIn wsX2_guarantors (va_wsS RX2 46 yX2_checkAmount wsX2_checkAmount) := goodIn_app (goodIn_of _ (by decide +kernel)) ggX2_guarantors_X2_checkAmount
set_option maxRecDepth 20000 in
theorem ggX2_guarantors_X2_checkRange : GoodIn wsX2_guarantors wsX2_checkRange := goodIn_ca (goodIn_r _ [12, 13, 14] (by decide +kernel) (by decide +kernel)) (goodIn_sub (fun _ h => List.mem_cons_of_mem _ (List.mem_append_right _ h)) (by decide +kernel))
set_option maxRecDepth 20000 in
theorem gX2_guarantors_X2_checkRange : GoodIn wsX2_guarantors (va_wsS RX2 70 yX2_checkRange wsX2_checkRange) := goodIn_app (goodIn_of _ (by decide +kernel)) ggX2_guarantors_X2_checkRange
set_option maxRecDepth 20000 in
theorem ggX2_guarantors_X2_fewestByGreatest : GoodIn wsX2_guarantors wsX2_fewestByGreatest := goodIn_r _ [18, 19, 20, 21, 22, 23, 3, 24, 25, 26, 27, 28, 29, 30, 31, 32, 33, 34, 35, 36, 37, 38, 39, 40, 41, 42, 43, 44, 45, 46, 47, 48, 49, 50, 51, 52, 53, 54, 55, 56, 72, 73, 74, 75, 76, 77, 78, 79, 80, 81, 82, 83, 84, 85, 86, 87, 88, 89, 90, 91, 92, 93, 94, 95, 96] (by decide +kernel) (by decide +kernel)
set_option maxRecDepth 20000 in
theorem gX2_guarantors_X2_fewestByGreatest : GoodIn wsX2_guarantors (wsV RX2 169 RX2 yX2_fewestByGreatest wsX2_fewestByGreatest) := goodIn_app (goodIn_of _ (by decide +kernel)) ggX2_guarantors_X2_fewestByGreatest
set_option maxRecDepth 20000 in
theorem ggX2_guarantors_X2_fewestBySets : GoodIn wsX2_guarantors wsX2_fewestBySets := goodIn_r _ [60, 19, 21, 22, 23, 3, 24, 20, 25, 26, 27, 28, 29, 30, 31, 32, 33, 34, 35, 36, 37, 38, 39, 40, 41, 42, 43, 44, 45, 46, 47, 48, 49, 50, 51, 52, 61, 62, 63, 64, 65, 66, 67, 68, 69, 70, 71, 72, 73, 74, 75, 76, 77, 78, 79, 80, 81, 82, 83, 84, 85, 86, 87, 88, 89, 90, 91, 92, 93, 94, 95, 96] (by decide +kernel) (by decide +kernel)
set_option maxRecDepth 20000 in
theorem gX2_guarantors_X2_fewestBySets : GoodIn wsX2_guarantors (wsV RX2 172 RX2 yX2_fewestBySets wsX2_fewestBySets) := goodIn_app (goodIn_of _ (by decide +kernel)) ggX2_guarantors_X2_fewestBySets
theorem dX2_guarantors_0 : decode cX2_guarantors 0 = .ok (.iload_n 1, 1) := by decide +kernel
theorem dX2_guarantors_1 : decode cX2_guarantors 1 = .ok (.invokestatic 42, 3) := by decide +kernel
theorem dX2_guarantors_4 : decode cX2_guarantors 4 = .ok (.iload_n 2, 1) := by decide +kernel
theorem dX2_guarantors_5 : decode cX2_guarantors 5 = .ok (.invokestatic 46, 3) := by decide +kernel
theorem dX2_guarantors_8 : decode cX2_guarantors 8 = .ok (.iload_n 3, 1) := by decide +kernel
theorem dX2_guarantors_9 : decode cX2_guarantors 9 = .ok (.iconst 0, 1) := by decide +kernel
theorem dX2_guarantors_10 : decode cX2_guarantors 10 = .ok (.iconst 1, 1) := by decide +kernel
theorem dX2_guarantors_11 : decode cX2_guarantors 11 = .ok (.invokestatic 70, 3) := by decide +kernel
theorem dX2_guarantors_14 : decode cX2_guarantors 14 = .ok (.iload_n 3, 1) := by decide +kernel
theorem dX2_guarantors_15 : decode cX2_guarantors 15 = .ok (.ifCond .ne 12, 3) := by decide +kernel
theorem dX2_guarantors_18 : decode cX2_guarantors 18 = .ok (.aload_n 0, 1) := by decide +kernel
theorem dX2_guarantors_19 : decode cX2_guarantors 19 = .ok (.iload_n 1, 1) := by decide +kernel
theorem dX2_guarantors_20 : decode cX2_guarantors 20 = .ok (.iload_n 2, 1) := by decide +kernel
theorem dX2_guarantors_21 : decode cX2_guarantors 21 = .ok (.invokevirtual 169, 3) := by decide +kernel
theorem dX2_guarantors_24 : decode cX2_guarantors 24 = .ok (.goto 9, 3) := by decide +kernel
theorem dX2_guarantors_27 : decode cX2_guarantors 27 = .ok (.aload_n 0, 1) := by decide +kernel
theorem dX2_guarantors_28 : decode cX2_guarantors 28 = .ok (.iload_n 1, 1) := by decide +kernel
theorem dX2_guarantors_29 : decode cX2_guarantors 29 = .ok (.iload_n 2, 1) := by decide +kernel
theorem dX2_guarantors_30 : decode cX2_guarantors 30 = .ok (.invokevirtual 172, 3) := by decide +kernel
theorem dX2_guarantors_33 : decode cX2_guarantors 33 = .ok (.ireturn, 1) := by decide +kernel
set_option maxRecDepth 20000 in
theorem ggX2_weeksLeft_X2_checkMember : GoodIn wsX2_weeksLeft wsX2_checkMember := goodIn_ca (goodIn_r _ [5, 6, 7] (by decide +kernel) (by decide +kernel)) (goodIn_sub (fun _ h => List.mem_cons_of_mem _ (List.mem_append_left _ (List.mem_append_right _ h))) (by decide +kernel))
set_option maxRecDepth 20000 in
theorem gX2_weeksLeft_X2_checkMember : GoodIn wsX2_weeksLeft (va_wsS RX2 42 yX2_checkMember wsX2_checkMember) := goodIn_app (goodIn_of _ (by decide +kernel)) ggX2_weeksLeft_X2_checkMember
set_option maxRecDepth 20000 in
theorem ggX2_weeksLeft_X2_checkRange : GoodIn wsX2_weeksLeft wsX2_checkRange := goodIn_ca (goodIn_r _ [10, 11, 12] (by decide +kernel) (by decide +kernel)) (goodIn_sub (fun _ h => List.mem_cons_of_mem _ (List.mem_append_right _ h)) (by decide +kernel))
set_option maxRecDepth 20000 in
theorem gX2_weeksLeft_X2_checkRange : GoodIn wsX2_weeksLeft (va_wsS RX2 70 yX2_checkRange wsX2_checkRange) := goodIn_app (goodIn_of _ (by decide +kernel)) ggX2_weeksLeft_X2_checkRange
set_option maxRecDepth 20000 in
theorem ggX2_weeksLeft_X0_weeksByWeeks : GoodIn wsX2_weeksLeft wsX0_weeksByWeeks := goodIn_r _ [17, 18, 19, 20, 21, 22, 23, 41, 42, 43, 44, 45, 46, 47, 48, 49, 50, 51, 52, 53, 54, 55, 56] (by decide +kernel) (by decide +kernel)
set_option maxRecDepth 20000 in
theorem gX2_weeksLeft_X0_weeksByWeeks : GoodIn wsX2_weeksLeft (wsV RX2 175 RX0 yX0_weeksByWeeks wsX0_weeksByWeeks) := goodIn_app (goodIn_of _ (by decide +kernel)) ggX2_weeksLeft_X0_weeksByWeeks
set_option maxRecDepth 20000 in
theorem ggX2_weeksLeft_X0_weeksAtOnce : GoodIn wsX2_weeksLeft wsX0_weeksAtOnce := goodIn_r _ [27, 19, 18, 28, 29, 30, 16, 31, 41, 42, 43, 44, 45, 46, 47, 48, 49, 50, 51, 52, 53, 54, 55, 56] (by decide +kernel) (by decide +kernel)
set_option maxRecDepth 20000 in
theorem gX2_weeksLeft_X0_weeksAtOnce : GoodIn wsX2_weeksLeft (wsV RX2 178 RX0 yX0_weeksAtOnce wsX0_weeksAtOnce) := goodIn_app (goodIn_of _ (by decide +kernel)) ggX2_weeksLeft_X0_weeksAtOnce
theorem dX2_weeksLeft_0 : decode cX2_weeksLeft 0 = .ok (.iload_n 1, 1) := by decide +kernel
theorem dX2_weeksLeft_1 : decode cX2_weeksLeft 1 = .ok (.invokestatic 42, 3) := by decide +kernel
theorem dX2_weeksLeft_4 : decode cX2_weeksLeft 4 = .ok (.iload_n 2, 1) := by decide +kernel
theorem dX2_weeksLeft_5 : decode cX2_weeksLeft 5 = .ok (.iconst 0, 1) := by decide +kernel
theorem dX2_weeksLeft_6 : decode cX2_weeksLeft 6 = .ok (.iconst 1, 1) := by decide +kernel
theorem dX2_weeksLeft_7 : decode cX2_weeksLeft 7 = .ok (.invokestatic 70, 3) := by decide +kernel
theorem dX2_weeksLeft_10 : decode cX2_weeksLeft 10 = .ok (.iload_n 2, 1) := by decide +kernel
theorem dX2_weeksLeft_11 : decode cX2_weeksLeft 11 = .ok (.ifCond .ne 14, 3) := by decide +kernel
theorem dX2_weeksLeft_14 : decode cX2_weeksLeft 14 = .ok (.aload_n 0, 1) := by decide +kernel
theorem dX2_weeksLeft_15 : decode cX2_weeksLeft 15 = .ok (.getfield 10, 3) := by decide +kernel
theorem dX2_weeksLeft_18 : decode cX2_weeksLeft 18 = .ok (.iload_n 1, 1) := by decide +kernel
theorem dX2_weeksLeft_19 : decode cX2_weeksLeft 19 = .ok (.invokevirtual 175, 3) := by decide +kernel
theorem dX2_weeksLeft_22 : decode cX2_weeksLeft 22 = .ok (.goto 11, 3) := by decide +kernel
theorem dX2_weeksLeft_25 : decode cX2_weeksLeft 25 = .ok (.aload_n 0, 1) := by decide +kernel
theorem dX2_weeksLeft_26 : decode cX2_weeksLeft 26 = .ok (.getfield 10, 3) := by decide +kernel
theorem dX2_weeksLeft_29 : decode cX2_weeksLeft 29 = .ok (.iload_n 1, 1) := by decide +kernel
theorem dX2_weeksLeft_30 : decode cX2_weeksLeft 30 = .ok (.invokevirtual 178, 3) := by decide +kernel
theorem dX2_weeksLeft_33 : decode cX2_weeksLeft 33 = .ok (.ireturn, 1) := by decide +kernel
set_option maxRecDepth 20000 in
theorem ggX2_ifDivided_X2_checkMember : GoodIn wsX2_ifDivided wsX2_checkMember := goodIn_ca (goodIn_r _ [5, 6, 7] (by decide +kernel) (by decide +kernel)) (goodIn_sub (fun _ h => List.mem_cons_of_mem _ (List.mem_append_right _ h)) (by decide +kernel))
set_option maxRecDepth 20000 in
theorem gX2_ifDivided_X2_checkMember : GoodIn wsX2_ifDivided (va_wsS RX2 42 yX2_checkMember wsX2_checkMember) := goodIn_app (goodIn_of _ (by decide +kernel)) ggX2_ifDivided_X2_checkMember
set_option maxRecDepth 20000 in
theorem ggX2_ifDivided_X0_allShareDays : GoodIn wsX2_ifDivided wsX0_allShareDays := goodIn_r _ [12, 13, 28, 29, 30, 31, 32, 33, 34, 35, 36, 37, 38, 39, 40, 41, 42, 43] (by decide +kernel) (by decide +kernel)
set_option maxRecDepth 20000 in
theorem gX2_ifDivided_X0_allShareDays : GoodIn wsX2_ifDivided (wsV RX2 181 RX0 yX0_allShareDays wsX0_allShareDays) := goodIn_app (goodIn_of _ (by decide +kernel)) ggX2_ifDivided_X0_allShareDays
set_option maxRecDepth 20000 in
theorem ggX2_ifDivided_X0_dividendOf : GoodIn wsX2_ifDivided wsX0_dividendOf := goodIn_r _ [17, 18, 13, 28, 29, 30, 31, 32, 33, 34, 35, 36, 37, 38, 39, 40, 41, 42, 43] (by decide +kernel) (by decide +kernel)
set_option maxRecDepth 20000 in
theorem gX2_ifDivided_X0_dividendOf : GoodIn wsX2_ifDivided (wsV RX2 185 RX0 yX0_dividendOf wsX0_dividendOf) := goodIn_app (goodIn_of _ (by decide +kernel)) ggX2_ifDivided_X0_dividendOf
theorem dX2_ifDivided_0 : decode cX2_ifDivided 0 = .ok (.iload_n 1, 1) := by decide +kernel
theorem dX2_ifDivided_1 : decode cX2_ifDivided 1 = .ok (.invokestatic 42, 3) := by decide +kernel
theorem dX2_ifDivided_4 : decode cX2_ifDivided 4 = .ok (.aload_n 0, 1) := by decide +kernel
theorem dX2_ifDivided_5 : decode cX2_ifDivided 5 = .ok (.getfield 10, 3) := by decide +kernel
theorem dX2_ifDivided_8 : decode cX2_ifDivided 8 = .ok (.iload_n 1, 1) := by decide +kernel
theorem dX2_ifDivided_9 : decode cX2_ifDivided 9 = .ok (.aload_n 0, 1) := by decide +kernel
theorem dX2_ifDivided_10 : decode cX2_ifDivided 10 = .ok (.getfield 10, 3) := by decide +kernel
theorem dX2_ifDivided_13 : decode cX2_ifDivided 13 = .ok (.invokevirtual 181, 3) := by decide +kernel
theorem dX2_ifDivided_16 : decode cX2_ifDivided 16 = .ok (.invokevirtual 185, 3) := by decide +kernel
theorem dX2_ifDivided_19 : decode cX2_ifDivided 19 = .ok (.ireturn, 1) := by decide +kernel
set_option maxRecDepth 20000 in
theorem ggX2_riskiest_X0_mostAtStake : GoodIn wsX2_riskiest wsX0_mostAtStake := goodIn_r _ [6, 7, 8, 9, 10, 5, 11, 12, 13, 14, 15, 16, 17, 18, 19, 20, 21, 31, 32, 33, 34, 35, 36, 37, 38, 39, 40, 41, 42, 43, 44, 45, 46] (by decide +kernel) (by decide +kernel)
set_option maxRecDepth 20000 in
theorem gX2_riskiest_X0_mostAtStake : GoodIn wsX2_riskiest (wsV RX2 189 RX0 yX0_mostAtStake wsX0_mostAtStake) := goodIn_app (goodIn_of _ (by decide +kernel)) ggX2_riskiest_X0_mostAtStake
theorem dX2_riskiest_0 : decode cX2_riskiest 0 = .ok (.aload_n 0, 1) := by decide +kernel
theorem dX2_riskiest_1 : decode cX2_riskiest 1 = .ok (.getfield 10, 3) := by decide +kernel
theorem dX2_riskiest_4 : decode cX2_riskiest 4 = .ok (.invokevirtual 189, 3) := by decide +kernel
theorem dX2_riskiest_7 : decode cX2_riskiest 7 = .ok (.ireturn, 1) := by decide +kernel
set_option maxRecDepth 20000 in
theorem ggX2_lentShare_X0_lentPart : GoodIn wsX2_lentShare wsX0_lentPart := goodIn_r _ [6, 7, 8, 9, 5, 10, 11, 12, 13, 14, 15, 16, 26, 27, 28, 29, 30, 31, 32, 33, 34, 35, 36, 37, 38, 39, 40, 41] (by decide +kernel) (by decide +kernel)
set_option maxRecDepth 20000 in
theorem gX2_lentShare_X0_lentPart : GoodIn wsX2_lentShare (wsV RX2 192 RX0 yX0_lentPart wsX0_lentPart) := goodIn_app (goodIn_of _ (by decide +kernel)) ggX2_lentShare_X0_lentPart
theorem dX2_lentShare_0 : decode cX2_lentShare 0 = .ok (.aload_n 0, 1) := by decide +kernel
theorem dX2_lentShare_1 : decode cX2_lentShare 1 = .ok (.getfield 10, 3) := by decide +kernel
theorem dX2_lentShare_4 : decode cX2_lentShare 4 = .ok (.invokevirtual 192, 3) := by decide +kernel
theorem dX2_lentShare_7 : decode cX2_lentShare 7 = .ok (.dreturn, 1) := by decide +kernel
theorem dX2_checkMember_0 : decode cX2_checkMember 0 = .ok (.iload_n 0, 1) := by decide +kernel
theorem dX2_checkMember_1 : decode cX2_checkMember 1 = .ok (.ifCond .lt 9, 3) := by decide +kernel
theorem dX2_checkMember_4 : decode cX2_checkMember 4 = .ok (.iload_n 0, 1) := by decide +kernel
theorem dX2_checkMember_5 : decode cX2_checkMember 5 = .ok (.bipush 6, 2) := by decide +kernel
theorem dX2_checkMember_7 : decode cX2_checkMember 7 = .ok (.if_icmp .lt 13, 3) := by decide +kernel
theorem dX2_checkMember_10 : decode cX2_checkMember 10 = .ok (.new 208, 3) := by decide +kernel
theorem dX2_checkMember_13 : decode cX2_checkMember 13 = .ok (.dup, 1) := by decide +kernel
theorem dX2_checkMember_14 : decode cX2_checkMember 14 = .ok (.ldc 210, 2) := by decide +kernel
theorem dX2_checkMember_16 : decode cX2_checkMember 16 = .ok (.invokespecial 212, 3) := by decide +kernel
theorem dX2_checkMember_19 : decode cX2_checkMember 19 = .ok (.athrow, 1) := by decide +kernel
theorem dX2_checkMember_20 : decode cX2_checkMember 20 = .ok (.return_, 1) := by decide +kernel
set_option maxRecDepth 20000 in
theorem ggX2_checkPair_X2_checkMember : GoodIn wsX2_checkPair wsX2_checkMember := goodIn_ca (goodIn_r _ [6, 7, 8] (by decide +kernel) (by decide +kernel)) (goodIn_sub (fun _ h => List.mem_cons_of_mem _ (List.mem_append_right _ h)) (by decide +kernel))
set_option maxRecDepth 20000 in
theorem gX2_checkPair_X2_checkMember : GoodIn wsX2_checkPair (va_wsS RX2 42 yX2_checkMember wsX2_checkMember) := goodIn_app (goodIn_of _ (by decide +kernel)) ggX2_checkPair_X2_checkMember
theorem dX2_checkPair_0 : decode cX2_checkPair 0 = .ok (.iload_n 0, 1) := by decide +kernel
theorem dX2_checkPair_1 : decode cX2_checkPair 1 = .ok (.invokestatic 42, 3) := by decide +kernel
theorem dX2_checkPair_4 : decode cX2_checkPair 4 = .ok (.iload_n 1, 1) := by decide +kernel
theorem dX2_checkPair_5 : decode cX2_checkPair 5 = .ok (.invokestatic 42, 3) := by decide +kernel
theorem dX2_checkPair_8 : decode cX2_checkPair 8 = .ok (.iload_n 0, 1) := by decide +kernel
theorem dX2_checkPair_9 : decode cX2_checkPair 9 = .ok (.iload_n 1, 1) := by decide +kernel
theorem dX2_checkPair_10 : decode cX2_checkPair 10 = .ok (.if_icmp .ne 13, 3) := by decide +kernel
theorem dX2_checkPair_13 : decode cX2_checkPair 13 = .ok (.new 126, 3) := by decide +kernel
theorem dX2_checkPair_16 : decode cX2_checkPair 16 = .ok (.dup, 1) := by decide +kernel
theorem dX2_checkPair_17 : decode cX2_checkPair 17 = .ok (.ldc 213, 2) := by decide +kernel
theorem dX2_checkPair_19 : decode cX2_checkPair 19 = .ok (.invokespecial 130, 3) := by decide +kernel
theorem dX2_checkPair_22 : decode cX2_checkPair 22 = .ok (.athrow, 1) := by decide +kernel
theorem dX2_checkPair_23 : decode cX2_checkPair 23 = .ok (.return_, 1) := by decide +kernel
theorem dX2_checkSetting_0 : decode cX2_checkSetting 0 = .ok (.iload_n 0, 1) := by decide +kernel
theorem dX2_checkSetting_1 : decode cX2_checkSetting 1 = .ok (.ifCond .lt 8, 3) := by decide +kernel
theorem dX2_checkSetting_4 : decode cX2_checkSetting 4 = .ok (.iload_n 0, 1) := by decide +kernel
theorem dX2_checkSetting_5 : decode cX2_checkSetting 5 = .ok (.iconst 2, 1) := by decide +kernel
theorem dX2_checkSetting_6 : decode cX2_checkSetting 6 = .ok (.if_icmp .lt 13, 3) := by decide +kernel
theorem dX2_checkSetting_9 : decode cX2_checkSetting 9 = .ok (.new 208, 3) := by decide +kernel
theorem dX2_checkSetting_12 : decode cX2_checkSetting 12 = .ok (.dup, 1) := by decide +kernel
theorem dX2_checkSetting_13 : decode cX2_checkSetting 13 = .ok (.ldc 215, 2) := by decide +kernel
theorem dX2_checkSetting_15 : decode cX2_checkSetting 15 = .ok (.invokespecial 212, 3) := by decide +kernel
theorem dX2_checkSetting_18 : decode cX2_checkSetting 18 = .ok (.athrow, 1) := by decide +kernel
theorem dX2_checkSetting_19 : decode cX2_checkSetting 19 = .ok (.return_, 1) := by decide +kernel
set_option maxRecDepth 20000 in
theorem ggX2_checkAmount_X2_checkRange : GoodIn wsX2_checkAmount wsX2_checkRange := goodIn_ca (goodIn_r _ [4, 5, 6] (by decide +kernel) (by decide +kernel)) (goodIn_sub (fun _ h => List.mem_cons_of_mem _ (List.mem_append_right _ h)) (by decide +kernel))
set_option maxRecDepth 20000 in
theorem gX2_checkAmount_X2_checkRange : GoodIn wsX2_checkAmount (va_wsS RX2 70 yX2_checkRange wsX2_checkRange) := goodIn_app (goodIn_of _ (by decide +kernel)) ggX2_checkAmount_X2_checkRange
theorem dX2_checkAmount_0 : decode cX2_checkAmount 0 = .ok (.iload_n 0, 1) := by decide +kernel
theorem dX2_checkAmount_1 : decode cX2_checkAmount 1 = .ok (.iconst 1, 1) := by decide +kernel
theorem dX2_checkAmount_2 : decode cX2_checkAmount 2 = .ok (.sipush 9999, 3) := by decide +kernel
theorem dX2_checkAmount_5 : decode cX2_checkAmount 5 = .ok (.invokestatic 70, 3) := by decide +kernel
theorem dX2_checkAmount_8 : decode cX2_checkAmount 8 = .ok (.return_, 1) := by decide +kernel
theorem dX2_checkRange_0 : decode cX2_checkRange 0 = .ok (.iload_n 0, 1) := by decide +kernel
theorem dX2_checkRange_1 : decode cX2_checkRange 1 = .ok (.iload_n 1, 1) := by decide +kernel
theorem dX2_checkRange_2 : decode cX2_checkRange 2 = .ok (.if_icmp .lt 8, 3) := by decide +kernel
theorem dX2_checkRange_5 : decode cX2_checkRange 5 = .ok (.iload_n 0, 1) := by decide +kernel
theorem dX2_checkRange_6 : decode cX2_checkRange 6 = .ok (.iload_n 2, 1) := by decide +kernel
theorem dX2_checkRange_7 : decode cX2_checkRange 7 = .ok (.if_icmp .le 13, 3) := by decide +kernel
theorem dX2_checkRange_10 : decode cX2_checkRange 10 = .ok (.new 126, 3) := by decide +kernel
theorem dX2_checkRange_13 : decode cX2_checkRange 13 = .ok (.dup, 1) := by decide +kernel
theorem dX2_checkRange_14 : decode cX2_checkRange 14 = .ok (.ldc 217, 2) := by decide +kernel
theorem dX2_checkRange_16 : decode cX2_checkRange 16 = .ok (.invokespecial 130, 3) := by decide +kernel
theorem dX2_checkRange_19 : decode cX2_checkRange 19 = .ok (.athrow, 1) := by decide +kernel
theorem dX2_checkRange_20 : decode cX2_checkRange 20 = .ok (.return_, 1) := by decide +kernel
set_option maxRecDepth 20000 in
theorem ggX2_saveState_X2_dropOldest : GoodIn wsX2_saveState wsX2_dropOldest := goodIn_r _ [8, 2, 1, 41, 42, 43, 44, 45, 46, 47, 48, 49] (by decide +kernel) (by decide +kernel)
set_option maxRecDepth 20000 in
theorem gX2_saveState_X2_dropOldest : GoodIn wsX2_saveState (wsV RX2 219 RX2 yX2_dropOldest wsX2_dropOldest) := goodIn_app (goodIn_of _ (by decide +kernel)) ggX2_saveState_X2_dropOldest
set_option maxRecDepth 20000 in
theorem ggX2_saveState_X0_copyFrom : GoodIn wsX2_saveState wsX0_copyFrom := goodIn_r _ [13, 14, 15, 16, 17, 18, 19, 20, 21, 22, 23, 24, 25, 26, 27, 28, 29, 30, 31, 12, 32, 33, 34, 35, 36, 37, 38, 39, 40, 50, 51, 52, 53, 54, 55, 56, 57, 58, 59, 60, 61, 62, 63, 64, 65] (by decide +kernel) (by decide +kernel)
set_option maxRecDepth 20000 in
theorem gX2_saveState_X0_copyFrom : GoodIn wsX2_saveState (wsV RX2 134 RX0 yX0_copyFrom wsX0_copyFrom) := goodIn_app (goodIn_of _ (by decide +kernel)) ggX2_saveState_X0_copyFrom
theorem dX2_saveState_0 : decode cX2_saveState 0 = .ok (.aload_n 0, 1) := by decide +kernel
theorem dX2_saveState_1 : decode cX2_saveState 1 = .ok (.getfield 143, 3) := by decide +kernel
theorem dX2_saveState_4 : decode cX2_saveState 4 = .ok (.bipush 6, 2) := by decide +kernel
theorem dX2_saveState_6 : decode cX2_saveState 6 = .ok (.if_icmp .lt 7, 3) := by decide +kernel
theorem dX2_saveState_9 : decode cX2_saveState 9 = .ok (.aload_n 0, 1) := by decide +kernel
theorem dX2_saveState_10 : decode cX2_saveState 10 = .ok (.invokevirtual 219, 3) := by decide +kernel
theorem dX2_saveState_13 : decode cX2_saveState 13 = .ok (.aload_n 0, 1) := by decide +kernel
theorem dX2_saveState_14 : decode cX2_saveState 14 = .ok (.getfield 16, 3) := by decide +kernel
theorem dX2_saveState_17 : decode cX2_saveState 17 = .ok (.aload_n 0, 1) := by decide +kernel
theorem dX2_saveState_18 : decode cX2_saveState 18 = .ok (.getfield 143, 3) := by decide +kernel
theorem dX2_saveState_21 : decode cX2_saveState 21 = .ok (.aaload, 1) := by decide +kernel
theorem dX2_saveState_22 : decode cX2_saveState 22 = .ok (.aload_n 0, 1) := by decide +kernel
theorem dX2_saveState_23 : decode cX2_saveState 23 = .ok (.getfield 10, 3) := by decide +kernel
theorem dX2_saveState_26 : decode cX2_saveState 26 = .ok (.invokevirtual 134, 3) := by decide +kernel
theorem dX2_saveState_29 : decode cX2_saveState 29 = .ok (.aload_n 0, 1) := by decide +kernel
theorem dX2_saveState_30 : decode cX2_saveState 30 = .ok (.dup, 1) := by decide +kernel
theorem dX2_saveState_31 : decode cX2_saveState 31 = .ok (.getfield 143, 3) := by decide +kernel
theorem dX2_saveState_34 : decode cX2_saveState 34 = .ok (.iconst 1, 1) := by decide +kernel
theorem dX2_saveState_35 : decode cX2_saveState 35 = .ok (.iadd, 1) := by decide +kernel
theorem dX2_saveState_36 : decode cX2_saveState 36 = .ok (.putfield 143, 3) := by decide +kernel
theorem dX2_saveState_39 : decode cX2_saveState 39 = .ok (.return_, 1) := by decide +kernel
theorem dX2_dropOldest_0 : decode cX2_dropOldest 0 = .ok (.aload_n 0, 1) := by decide +kernel
theorem dX2_dropOldest_1 : decode cX2_dropOldest 1 = .ok (.getfield 16, 3) := by decide +kernel
theorem dX2_dropOldest_4 : decode cX2_dropOldest 4 = .ok (.iconst 0, 1) := by decide +kernel
theorem dX2_dropOldest_5 : decode cX2_dropOldest 5 = .ok (.aaload, 1) := by decide +kernel
theorem dX2_dropOldest_6 : decode cX2_dropOldest 6 = .ok (.astore_n 1, 1) := by decide +kernel
theorem dX2_dropOldest_7 : decode cX2_dropOldest 7 = .ok (.iconst 1, 1) := by decide +kernel
theorem dX2_dropOldest_8 : decode cX2_dropOldest 8 = .ok (.istore_n 2, 1) := by decide +kernel
theorem dX2_dropOldest_9 : decode cX2_dropOldest 9 = .ok (.iload_n 2, 1) := by decide +kernel
theorem dX2_dropOldest_10 : decode cX2_dropOldest 10 = .ok (.bipush 6, 2) := by decide +kernel
theorem dX2_dropOldest_12 : decode cX2_dropOldest 12 = .ok (.if_icmp .ge 23, 3) := by decide +kernel
theorem dX2_dropOldest_15 : decode cX2_dropOldest 15 = .ok (.aload_n 0, 1) := by decide +kernel
theorem dX2_dropOldest_16 : decode cX2_dropOldest 16 = .ok (.getfield 16, 3) := by decide +kernel
theorem dX2_dropOldest_19 : decode cX2_dropOldest 19 = .ok (.iload_n 2, 1) := by decide +kernel
theorem dX2_dropOldest_20 : decode cX2_dropOldest 20 = .ok (.iconst 1, 1) := by decide +kernel
theorem dX2_dropOldest_21 : decode cX2_dropOldest 21 = .ok (.isub, 1) := by decide +kernel
theorem dX2_dropOldest_22 : decode cX2_dropOldest 22 = .ok (.aload_n 0, 1) := by decide +kernel
theorem dX2_dropOldest_23 : decode cX2_dropOldest 23 = .ok (.getfield 16, 3) := by decide +kernel
theorem dX2_dropOldest_26 : decode cX2_dropOldest 26 = .ok (.iload_n 2, 1) := by decide +kernel
theorem dX2_dropOldest_27 : decode cX2_dropOldest 27 = .ok (.aaload, 1) := by decide +kernel
theorem dX2_dropOldest_28 : decode cX2_dropOldest 28 = .ok (.aastore, 1) := by decide +kernel
theorem dX2_dropOldest_29 : decode cX2_dropOldest 29 = .ok (.iinc 2 1, 3) := by decide +kernel
theorem dX2_dropOldest_32 : decode cX2_dropOldest 32 = .ok (.goto (-23), 3) := by decide +kernel
theorem dX2_dropOldest_35 : decode cX2_dropOldest 35 = .ok (.aload_n 0, 1) := by decide +kernel
theorem dX2_dropOldest_36 : decode cX2_dropOldest 36 = .ok (.getfield 16, 3) := by decide +kernel
theorem dX2_dropOldest_39 : decode cX2_dropOldest 39 = .ok (.iconst 5, 1) := by decide +kernel
theorem dX2_dropOldest_40 : decode cX2_dropOldest 40 = .ok (.aload_n 1, 1) := by decide +kernel
theorem dX2_dropOldest_41 : decode cX2_dropOldest 41 = .ok (.aastore, 1) := by decide +kernel
theorem dX2_dropOldest_42 : decode cX2_dropOldest 42 = .ok (.aload_n 0, 1) := by decide +kernel
theorem dX2_dropOldest_43 : decode cX2_dropOldest 43 = .ok (.iconst 5, 1) := by decide +kernel
theorem dX2_dropOldest_44 : decode cX2_dropOldest 44 = .ok (.putfield 143, 3) := by decide +kernel
theorem dX2_dropOldest_47 : decode cX2_dropOldest 47 = .ok (.return_, 1) := by decide +kernel
set_option maxRecDepth 20000 in
theorem ggX2_number_X0_allShares : GoodIn wsX2_number wsX0_allShares := goodIn_r _ [15, 16, 39, 40, 41, 42, 43, 44, 45, 46, 47, 48, 49, 50, 51, 52, 53, 54] (by decide +kernel) (by decide +kernel)
set_option maxRecDepth 20000 in
theorem gX2_number_X0_allShares : GoodIn wsX2_number (wsV RX2 254 RX0 yX0_allShares wsX0_allShares) := goodIn_app (goodIn_of _ (by decide +kernel)) ggX2_number_X0_allShares
set_option maxRecDepth 20000 in
theorem ggX2_number_X0_allRests : GoodIn wsX2_number wsX0_allRests := goodIn_r _ [20, 21, 39, 40, 41, 42, 43, 44, 45, 46, 47, 48, 49, 50, 51, 52, 53, 54] (by decide +kernel) (by decide +kernel)
set_option maxRecDepth 20000 in
theorem gX2_number_X0_allRests : GoodIn wsX2_number (wsV RX2 257 RX0 yX0_allRests wsX0_allRests) := goodIn_app (goodIn_of _ (by decide +kernel)) ggX2_number_X0_allRests
set_option maxRecDepth 20000 in
theorem ggX2_number_X0_loans : GoodIn wsX2_number wsX0_loans := goodIn_r _ [25, 26, 27, 28, 14, 29, 21, 39, 40, 41, 42, 43, 44, 45, 46, 47, 48, 49, 50, 51, 52, 53, 54] (by decide +kernel) (by decide +kernel)
set_option maxRecDepth 20000 in
theorem gX2_number_X0_loans : GoodIn wsX2_number (wsV RX2 138 RX0 yX0_loans wsX0_loans) := goodIn_app (goodIn_of _ (by decide +kernel)) ggX2_number_X0_loans
theorem dX2_number_0 : decode cX2_number 0 = .ok (.iload_n 1, 1) := by decide +kernel
theorem dX2_number_1 : decode cX2_number 1 = .ok (.tableswitch 147 0 10 #[59, 67, 75, 83, 91, 99, 107, 115, 123, 131, 139], 59) := by decide +kernel
theorem dX2_number_60 : decode cX2_number 60 = .ok (.aload_n 0, 1) := by decide +kernel
theorem dX2_number_61 : decode cX2_number 61 = .ok (.getfield 10, 3) := by decide +kernel
theorem dX2_number_64 : decode cX2_number 64 = .ok (.getfield 248, 3) := by decide +kernel
theorem dX2_number_67 : decode cX2_number 67 = .ok (.ireturn, 1) := by decide +kernel
theorem dX2_number_68 : decode cX2_number 68 = .ok (.aload_n 0, 1) := by decide +kernel
theorem dX2_number_69 : decode cX2_number 69 = .ok (.getfield 10, 3) := by decide +kernel
theorem dX2_number_72 : decode cX2_number 72 = .ok (.getfield 251, 3) := by decide +kernel
theorem dX2_number_75 : decode cX2_number 75 = .ok (.ireturn, 1) := by decide +kernel
theorem dX2_number_76 : decode cX2_number 76 = .ok (.aload_n 0, 1) := by decide +kernel
theorem dX2_number_77 : decode cX2_number 77 = .ok (.getfield 10, 3) := by decide +kernel
theorem dX2_number_80 : decode cX2_number 80 = .ok (.invokevirtual 254, 3) := by decide +kernel
theorem dX2_number_83 : decode cX2_number 83 = .ok (.ireturn, 1) := by decide +kernel
theorem dX2_number_84 : decode cX2_number 84 = .ok (.aload_n 0, 1) := by decide +kernel
theorem dX2_number_85 : decode cX2_number 85 = .ok (.getfield 10, 3) := by decide +kernel
theorem dX2_number_88 : decode cX2_number 88 = .ok (.invokevirtual 257, 3) := by decide +kernel
theorem dX2_number_91 : decode cX2_number 91 = .ok (.ireturn, 1) := by decide +kernel
theorem dX2_number_92 : decode cX2_number 92 = .ok (.aload_n 0, 1) := by decide +kernel
theorem dX2_number_93 : decode cX2_number 93 = .ok (.getfield 10, 3) := by decide +kernel
theorem dX2_number_96 : decode cX2_number 96 = .ok (.invokevirtual 138, 3) := by decide +kernel
theorem dX2_number_99 : decode cX2_number 99 = .ok (.ireturn, 1) := by decide +kernel
theorem dX2_number_100 : decode cX2_number 100 = .ok (.aload_n 0, 1) := by decide +kernel
theorem dX2_number_101 : decode cX2_number 101 = .ok (.getfield 10, 3) := by decide +kernel
theorem dX2_number_104 : decode cX2_number 104 = .ok (.getfield 260, 3) := by decide +kernel
theorem dX2_number_107 : decode cX2_number 107 = .ok (.ireturn, 1) := by decide +kernel
theorem dX2_number_108 : decode cX2_number 108 = .ok (.aload_n 0, 1) := by decide +kernel
theorem dX2_number_109 : decode cX2_number 109 = .ok (.getfield 10, 3) := by decide +kernel
theorem dX2_number_112 : decode cX2_number 112 = .ok (.getfield 263, 3) := by decide +kernel
theorem dX2_number_115 : decode cX2_number 115 = .ok (.ireturn, 1) := by decide +kernel
theorem dX2_number_116 : decode cX2_number 116 = .ok (.aload_n 0, 1) := by decide +kernel
theorem dX2_number_117 : decode cX2_number 117 = .ok (.getfield 10, 3) := by decide +kernel
theorem dX2_number_120 : decode cX2_number 120 = .ok (.getfield 266, 3) := by decide +kernel
theorem dX2_number_123 : decode cX2_number 123 = .ok (.ireturn, 1) := by decide +kernel
theorem dX2_number_124 : decode cX2_number 124 = .ok (.aload_n 0, 1) := by decide +kernel
theorem dX2_number_125 : decode cX2_number 125 = .ok (.getfield 10, 3) := by decide +kernel
theorem dX2_number_128 : decode cX2_number 128 = .ok (.getfield 269, 3) := by decide +kernel
theorem dX2_number_131 : decode cX2_number 131 = .ok (.ireturn, 1) := by decide +kernel
theorem dX2_number_132 : decode cX2_number 132 = .ok (.aload_n 0, 1) := by decide +kernel
theorem dX2_number_133 : decode cX2_number 133 = .ok (.getfield 10, 3) := by decide +kernel
theorem dX2_number_136 : decode cX2_number 136 = .ok (.getfield 272, 3) := by decide +kernel
theorem dX2_number_139 : decode cX2_number 139 = .ok (.ireturn, 1) := by decide +kernel
theorem dX2_number_140 : decode cX2_number 140 = .ok (.aload_n 0, 1) := by decide +kernel
theorem dX2_number_141 : decode cX2_number 141 = .ok (.getfield 10, 3) := by decide +kernel
theorem dX2_number_144 : decode cX2_number 144 = .ok (.getfield 275, 3) := by decide +kernel
theorem dX2_number_147 : decode cX2_number 147 = .ok (.ireturn, 1) := by decide +kernel
theorem dX2_number_148 : decode cX2_number 148 = .ok (.aload_n 0, 1) := by decide +kernel
theorem dX2_number_149 : decode cX2_number 149 = .ok (.getfield 143, 3) := by decide +kernel
theorem dX2_number_152 : decode cX2_number 152 = .ok (.ireturn, 1) := by decide +kernel
set_option maxRecDepth 20000 in
theorem ggX2_greatestByHalving_X0_whyNoLoan : GoodIn wsX2_greatestByHalving wsX0_whyNoLoan := goodIn_r _ [6, 7, 8, 9, 5, 10, 11, 12, 13, 14, 15, 16, 17, 18, 19, 20, 21, 22, 23, 24, 25, 26, 27, 28, 29, 30, 31, 32, 33, 34, 35, 36, 37, 38, 39, 40, 41, 42, 43, 53, 54, 55, 56, 57, 58, 59, 60, 61, 62, 63, 64, 65, 66, 67, 68] (by decide +kernel) (by decide +kernel)
set_option maxRecDepth 20000 in
theorem gX2_greatestByHalving_X0_whyNoLoan : GoodIn wsX2_greatestByHalving (wsV RX2 160 RX0 yX0_whyNoLoan wsX0_whyNoLoan) := goodIn_app (goodIn_of _ (by decide +kernel)) ggX2_greatestByHalving_X0_whyNoLoan
theorem dX2_greatestByHalving_0 : decode cX2_greatestByHalving 0 = .ok (.iconst 0, 1) := by decide +kernel
theorem dX2_greatestByHalving_1 : decode cX2_greatestByHalving 1 = .ok (.istore_n 2, 1) := by decide +kernel
theorem dX2_greatestByHalving_2 : decode cX2_greatestByHalving 2 = .ok (.sipush 8192, 3) := by decide +kernel
theorem dX2_greatestByHalving_5 : decode cX2_greatestByHalving 5 = .ok (.istore_n 3, 1) := by decide +kernel
theorem dX2_greatestByHalving_6 : decode cX2_greatestByHalving 6 = .ok (.iload_n 3, 1) := by decide +kernel
theorem dX2_greatestByHalving_7 : decode cX2_greatestByHalving 7 = .ok (.ifCond .le 39, 3) := by decide +kernel
theorem dX2_greatestByHalving_10 : decode cX2_greatestByHalving 10 = .ok (.iload_n 2, 1) := by decide +kernel
theorem dX2_greatestByHalving_11 : decode cX2_greatestByHalving 11 = .ok (.iload_n 3, 1) := by decide +kernel
theorem dX2_greatestByHalving_12 : decode cX2_greatestByHalving 12 = .ok (.iadd, 1) := by decide +kernel
theorem dX2_greatestByHalving_13 : decode cX2_greatestByHalving 13 = .ok (.istore 4, 2) := by decide +kernel
theorem dX2_greatestByHalving_15 : decode cX2_greatestByHalving 15 = .ok (.iload 4, 2) := by decide +kernel
theorem dX2_greatestByHalving_17 : decode cX2_greatestByHalving 17 = .ok (.sipush 9999, 3) := by decide +kernel
theorem dX2_greatestByHalving_20 : decode cX2_greatestByHalving 20 = .ok (.if_icmp .gt 19, 3) := by decide +kernel
theorem dX2_greatestByHalving_23 : decode cX2_greatestByHalving 23 = .ok (.aload_n 0, 1) := by decide +kernel
theorem dX2_greatestByHalving_24 : decode cX2_greatestByHalving 24 = .ok (.getfield 10, 3) := by decide +kernel
theorem dX2_greatestByHalving_27 : decode cX2_greatestByHalving 27 = .ok (.iload_n 1, 1) := by decide +kernel
theorem dX2_greatestByHalving_28 : decode cX2_greatestByHalving 28 = .ok (.iload 4, 2) := by decide +kernel
theorem dX2_greatestByHalving_30 : decode cX2_greatestByHalving 30 = .ok (.invokevirtual 160, 3) := by decide +kernel
theorem dX2_greatestByHalving_33 : decode cX2_greatestByHalving 33 = .ok (.ifCond .ne 6, 3) := by decide +kernel
theorem dX2_greatestByHalving_36 : decode cX2_greatestByHalving 36 = .ok (.iload 4, 2) := by decide +kernel
theorem dX2_greatestByHalving_38 : decode cX2_greatestByHalving 38 = .ok (.istore_n 2, 1) := by decide +kernel
theorem dX2_greatestByHalving_39 : decode cX2_greatestByHalving 39 = .ok (.iload_n 3, 1) := by decide +kernel
theorem dX2_greatestByHalving_40 : decode cX2_greatestByHalving 40 = .ok (.iconst 2, 1) := by decide +kernel
theorem dX2_greatestByHalving_41 : decode cX2_greatestByHalving 41 = .ok (.idiv, 1) := by decide +kernel
theorem dX2_greatestByHalving_42 : decode cX2_greatestByHalving 42 = .ok (.istore_n 3, 1) := by decide +kernel
theorem dX2_greatestByHalving_43 : decode cX2_greatestByHalving 43 = .ok (.goto (-37), 3) := by decide +kernel
theorem dX2_greatestByHalving_46 : decode cX2_greatestByHalving 46 = .ok (.iload_n 2, 1) := by decide +kernel
theorem dX2_greatestByHalving_47 : decode cX2_greatestByHalving 47 = .ok (.ireturn, 1) := by decide +kernel
set_option maxRecDepth 20000 in
theorem ggX2_greatestByAll_X0_hasLoan : GoodIn wsX2_greatestByAll wsX0_hasLoan := goodIn_r _ [6, 7, 49, 50, 51, 52, 53, 54, 55, 56, 57, 58, 59, 60, 61, 62, 63, 64] (by decide +kernel) (by decide +kernel)
set_option maxRecDepth 20000 in
theorem gX2_greatestByAll_X0_hasLoan : GoodIn wsX2_greatestByAll (wsV RX2 278 RX0 yX0_hasLoan wsX0_hasLoan) := goodIn_app (goodIn_of _ (by decide +kernel)) ggX2_greatestByAll_X0_hasLoan
set_option maxRecDepth 20000 in
theorem ggX2_greatestByAll_X0_threefold : GoodIn wsX2_greatestByAll wsX0_threefold := goodIn_r _ [11, 12, 49, 50, 51, 52, 53, 54, 55, 56, 57, 58, 59, 60, 61, 62, 63, 64] (by decide +kernel) (by decide +kernel)
set_option maxRecDepth 20000 in
theorem gX2_greatestByAll_X0_threefold : GoodIn wsX2_greatestByAll (wsV RX2 281 RX0 yX0_threefold wsX0_threefold) := goodIn_app (goodIn_of _ (by decide +kernel)) ggX2_greatestByAll_X0_threefold
set_option maxRecDepth 20000 in
theorem ggX2_greatestByAll_X0_cover : GoodIn wsX2_greatestByAll wsX0_cover := goodIn_r _ [16, 17, 18, 19, 5, 20, 12, 21, 22, 23, 24, 25, 26, 27, 28, 29, 49, 50, 51, 52, 53, 54, 55, 56, 57, 58, 59, 60, 61, 62, 63, 64] (by decide +kernel) (by decide +kernel)
set_option maxRecDepth 20000 in
theorem gX2_greatestByAll_X0_cover : GoodIn wsX2_greatestByAll (wsV RX2 284 RX0 yX0_cover wsX0_cover) := goodIn_app (goodIn_of _ (by decide +kernel)) ggX2_greatestByAll_X0_cover
set_option maxRecDepth 20000 in
theorem ggX2_greatestByAll_X0_whyAbove : GoodIn wsX2_greatestByAll wsX0_whyAbove := goodIn_r _ [33, 34, 35, 36, 37, 5, 38, 39, 49, 50, 51, 52, 53, 54, 55, 56, 57, 58, 59, 60, 61, 62, 63, 64] (by decide +kernel) (by decide +kernel)
set_option maxRecDepth 20000 in
theorem gX2_greatestByAll_X0_whyAbove : GoodIn wsX2_greatestByAll (wsV RX2 287 RX0 yX0_whyAbove wsX0_whyAbove) := goodIn_app (goodIn_of _ (by decide +kernel)) ggX2_greatestByAll_X0_whyAbove
theorem dX2_greatestByAll_0 : decode cX2_greatestByAll 0 = .ok (.aload_n 0, 1) := by decide +kernel
theorem dX2_greatestByAll_1 : decode cX2_greatestByAll 1 = .ok (.getfield 10, 3) := by decide +kernel
theorem dX2_greatestByAll_4 : decode cX2_greatestByAll 4 = .ok (.iload_n 1, 1) := by decide +kernel
theorem dX2_greatestByAll_5 : decode cX2_greatestByAll 5 = .ok (.invokevirtual 278, 3) := by decide +kernel
theorem dX2_greatestByAll_8 : decode cX2_greatestByAll 8 = .ok (.ifCond .eq 5, 3) := by decide +kernel
theorem dX2_greatestByAll_11 : decode cX2_greatestByAll 11 = .ok (.iconst 0, 1) := by decide +kernel
theorem dX2_greatestByAll_12 : decode cX2_greatestByAll 12 = .ok (.ireturn, 1) := by decide +kernel
theorem dX2_greatestByAll_13 : decode cX2_greatestByAll 13 = .ok (.aload_n 0, 1) := by decide +kernel
theorem dX2_greatestByAll_14 : decode cX2_greatestByAll 14 = .ok (.getfield 10, 3) := by decide +kernel
theorem dX2_greatestByAll_17 : decode cX2_greatestByAll 17 = .ok (.iload_n 1, 1) := by decide +kernel
theorem dX2_greatestByAll_18 : decode cX2_greatestByAll 18 = .ok (.invokevirtual 281, 3) := by decide +kernel
theorem dX2_greatestByAll_21 : decode cX2_greatestByAll 21 = .ok (.istore_n 2, 1) := by decide +kernel
theorem dX2_greatestByAll_22 : decode cX2_greatestByAll 22 = .ok (.aload_n 0, 1) := by decide +kernel
theorem dX2_greatestByAll_23 : decode cX2_greatestByAll 23 = .ok (.getfield 10, 3) := by decide +kernel
theorem dX2_greatestByAll_26 : decode cX2_greatestByAll 26 = .ok (.iload_n 1, 1) := by decide +kernel
theorem dX2_greatestByAll_27 : decode cX2_greatestByAll 27 = .ok (.invokevirtual 284, 3) := by decide +kernel
theorem dX2_greatestByAll_30 : decode cX2_greatestByAll 30 = .ok (.istore_n 3, 1) := by decide +kernel
theorem dX2_greatestByAll_31 : decode cX2_greatestByAll 31 = .ok (.sipush 9999, 3) := by decide +kernel
theorem dX2_greatestByAll_34 : decode cX2_greatestByAll 34 = .ok (.istore 4, 2) := by decide +kernel
theorem dX2_greatestByAll_36 : decode cX2_greatestByAll 36 = .ok (.iload 4, 2) := by decide +kernel
theorem dX2_greatestByAll_38 : decode cX2_greatestByAll 38 = .ok (.ifCond .le 26, 3) := by decide +kernel
theorem dX2_greatestByAll_41 : decode cX2_greatestByAll 41 = .ok (.aload_n 0, 1) := by decide +kernel
theorem dX2_greatestByAll_42 : decode cX2_greatestByAll 42 = .ok (.getfield 10, 3) := by decide +kernel
theorem dX2_greatestByAll_45 : decode cX2_greatestByAll 45 = .ok (.iload_n 2, 1) := by decide +kernel
theorem dX2_greatestByAll_46 : decode cX2_greatestByAll 46 = .ok (.iload_n 3, 1) := by decide +kernel
theorem dX2_greatestByAll_47 : decode cX2_greatestByAll 47 = .ok (.iload 4, 2) := by decide +kernel
theorem dX2_greatestByAll_49 : decode cX2_greatestByAll 49 = .ok (.invokevirtual 287, 3) := by decide +kernel
theorem dX2_greatestByAll_52 : decode cX2_greatestByAll 52 = .ok (.ifCond .ne 6, 3) := by decide +kernel
theorem dX2_greatestByAll_55 : decode cX2_greatestByAll 55 = .ok (.iload 4, 2) := by decide +kernel
theorem dX2_greatestByAll_57 : decode cX2_greatestByAll 57 = .ok (.ireturn, 1) := by decide +kernel
theorem dX2_greatestByAll_58 : decode cX2_greatestByAll 58 = .ok (.iinc 4 (-1), 3) := by decide +kernel
theorem dX2_greatestByAll_61 : decode cX2_greatestByAll 61 = .ok (.goto (-25), 3) := by decide +kernel
theorem dX2_greatestByAll_64 : decode cX2_greatestByAll 64 = .ok (.iconst 0, 1) := by decide +kernel
theorem dX2_greatestByAll_65 : decode cX2_greatestByAll 65 = .ok (.ireturn, 1) := by decide +kernel
set_option maxRecDepth 20000 in
theorem ggX2_fewestByGreatest_X2_fillFree : GoodIn wsX2_fewestByGreatest wsX2_fillFree := goodIn_r _ [7, 2, 1, 8, 9, 10, 11, 12, 13, 14, 15, 16, 17, 18, 19, 20, 21, 22, 23, 24, 25, 26, 27, 28, 29, 30, 31, 40, 41, 42, 43, 44, 45, 46, 47, 48, 49, 50, 51, 52, 53, 54, 55, 56, 57, 58, 59, 60, 61, 62, 63, 64] (by decide +kernel) (by decide +kernel)
set_option maxRecDepth 20000 in
theorem gX2_fewestByGreatest_X2_fillFree : GoodIn wsX2_fewestByGreatest (wsV RX2 290 RX2 yX2_fillFree wsX2_fillFree) := goodIn_app (goodIn_of _ (by decide +kernel)) ggX2_fewestByGreatest_X2_fillFree
set_option maxRecDepth 20000 in
theorem ggX2_fewestByGreatest_X0_cover : GoodIn wsX2_fewestByGreatest wsX0_cover := goodIn_r _ [35, 18, 19, 20, 11, 21, 22, 23, 24, 25, 26, 27, 28, 29, 30, 31, 49, 50, 51, 52, 53, 54, 55, 56, 57, 58, 59, 60, 61, 62, 63, 64] (by decide +kernel) (by decide +kernel)
set_option maxRecDepth 20000 in
theorem gX2_fewestByGreatest_X0_cover : GoodIn wsX2_fewestByGreatest (wsV RX2 284 RX0 yX0_cover wsX0_cover) := goodIn_app (goodIn_of _ (by decide +kernel)) ggX2_fewestByGreatest_X0_cover
set_option maxRecDepth 20000 in
theorem ggX2_fewestByGreatest_X2_freest : GoodIn wsX2_fewestByGreatest wsX2_freest := goodIn_r _ [39, 2, 40, 41, 42, 43, 44, 45, 46, 47, 48] (by decide +kernel) (by decide +kernel)
set_option maxRecDepth 20000 in
theorem gX2_fewestByGreatest_X2_freest : GoodIn wsX2_fewestByGreatest (wsV RX2 293 RX2 yX2_freest wsX2_freest) := goodIn_app (goodIn_of _ (by decide +kernel)) ggX2_fewestByGreatest_X2_freest
theorem dX2_fewestByGreatest_0 : decode cX2_fewestByGreatest 0 = .ok (.aload_n 0, 1) := by decide +kernel
theorem dX2_fewestByGreatest_1 : decode cX2_fewestByGreatest 1 = .ok (.invokevirtual 290, 3) := by decide +kernel
theorem dX2_fewestByGreatest_4 : decode cX2_fewestByGreatest 4 = .ok (.aload_n 0, 1) := by decide +kernel
theorem dX2_fewestByGreatest_5 : decode cX2_fewestByGreatest 5 = .ok (.getfield 10, 3) := by decide +kernel
theorem dX2_fewestByGreatest_8 : decode cX2_fewestByGreatest 8 = .ok (.iload_n 1, 1) := by decide +kernel
theorem dX2_fewestByGreatest_9 : decode cX2_fewestByGreatest 9 = .ok (.invokevirtual 284, 3) := by decide +kernel
theorem dX2_fewestByGreatest_12 : decode cX2_fewestByGreatest 12 = .ok (.istore_n 3, 1) := by decide +kernel
theorem dX2_fewestByGreatest_13 : decode cX2_fewestByGreatest 13 = .ok (.iconst 1, 1) := by decide +kernel
theorem dX2_fewestByGreatest_14 : decode cX2_fewestByGreatest 14 = .ok (.iload_n 1, 1) := by decide +kernel
theorem dX2_fewestByGreatest_15 : decode cX2_fewestByGreatest 15 = .ok (.ishl, 1) := by decide +kernel
theorem dX2_fewestByGreatest_16 : decode cX2_fewestByGreatest 16 = .ok (.istore 4, 2) := by decide +kernel
theorem dX2_fewestByGreatest_18 : decode cX2_fewestByGreatest 18 = .ok (.iconst 0, 1) := by decide +kernel
theorem dX2_fewestByGreatest_19 : decode cX2_fewestByGreatest 19 = .ok (.istore 5, 2) := by decide +kernel
theorem dX2_fewestByGreatest_21 : decode cX2_fewestByGreatest 21 = .ok (.iload 5, 2) := by decide +kernel
theorem dX2_fewestByGreatest_23 : decode cX2_fewestByGreatest 23 = .ok (.bipush 6, 2) := by decide +kernel
theorem dX2_fewestByGreatest_25 : decode cX2_fewestByGreatest 25 = .ok (.if_icmp .ge 52, 3) := by decide +kernel
theorem dX2_fewestByGreatest_28 : decode cX2_fewestByGreatest 28 = .ok (.iload_n 3, 1) := by decide +kernel
theorem dX2_fewestByGreatest_29 : decode cX2_fewestByGreatest 29 = .ok (.iload_n 2, 1) := by decide +kernel
theorem dX2_fewestByGreatest_30 : decode cX2_fewestByGreatest 30 = .ok (.if_icmp .lt 6, 3) := by decide +kernel
theorem dX2_fewestByGreatest_33 : decode cX2_fewestByGreatest 33 = .ok (.iload 5, 2) := by decide +kernel
theorem dX2_fewestByGreatest_35 : decode cX2_fewestByGreatest 35 = .ok (.ireturn, 1) := by decide +kernel
theorem dX2_fewestByGreatest_36 : decode cX2_fewestByGreatest 36 = .ok (.aload_n 0, 1) := by decide +kernel
theorem dX2_fewestByGreatest_37 : decode cX2_fewestByGreatest 37 = .ok (.iload 4, 2) := by decide +kernel
theorem dX2_fewestByGreatest_39 : decode cX2_fewestByGreatest 39 = .ok (.invokevirtual 293, 3) := by decide +kernel
theorem dX2_fewestByGreatest_42 : decode cX2_fewestByGreatest 42 = .ok (.istore 6, 2) := by decide +kernel
theorem dX2_fewestByGreatest_44 : decode cX2_fewestByGreatest 44 = .ok (.iload 6, 2) := by decide +kernel
theorem dX2_fewestByGreatest_46 : decode cX2_fewestByGreatest 46 = .ok (.iconst (-1), 1) := by decide +kernel
theorem dX2_fewestByGreatest_47 : decode cX2_fewestByGreatest 47 = .ok (.if_icmp .ne 5, 3) := by decide +kernel
theorem dX2_fewestByGreatest_50 : decode cX2_fewestByGreatest 50 = .ok (.iconst (-1), 1) := by decide +kernel
theorem dX2_fewestByGreatest_51 : decode cX2_fewestByGreatest 51 = .ok (.ireturn, 1) := by decide +kernel
theorem dX2_fewestByGreatest_52 : decode cX2_fewestByGreatest 52 = .ok (.iload_n 3, 1) := by decide +kernel
theorem dX2_fewestByGreatest_53 : decode cX2_fewestByGreatest 53 = .ok (.aload_n 0, 1) := by decide +kernel
theorem dX2_fewestByGreatest_54 : decode cX2_fewestByGreatest 54 = .ok (.getfield 38, 3) := by decide +kernel
theorem dX2_fewestByGreatest_57 : decode cX2_fewestByGreatest 57 = .ok (.iload 6, 2) := by decide +kernel
theorem dX2_fewestByGreatest_59 : decode cX2_fewestByGreatest 59 = .ok (.iaload, 1) := by decide +kernel
theorem dX2_fewestByGreatest_60 : decode cX2_fewestByGreatest 60 = .ok (.iadd, 1) := by decide +kernel
theorem dX2_fewestByGreatest_61 : decode cX2_fewestByGreatest 61 = .ok (.istore_n 3, 1) := by decide +kernel
theorem dX2_fewestByGreatest_62 : decode cX2_fewestByGreatest 62 = .ok (.iload 4, 2) := by decide +kernel
theorem dX2_fewestByGreatest_64 : decode cX2_fewestByGreatest 64 = .ok (.iconst 1, 1) := by decide +kernel
theorem dX2_fewestByGreatest_65 : decode cX2_fewestByGreatest 65 = .ok (.iload 6, 2) := by decide +kernel
theorem dX2_fewestByGreatest_67 : decode cX2_fewestByGreatest 67 = .ok (.ishl, 1) := by decide +kernel
theorem dX2_fewestByGreatest_68 : decode cX2_fewestByGreatest 68 = .ok (.ior, 1) := by decide +kernel
theorem dX2_fewestByGreatest_69 : decode cX2_fewestByGreatest 69 = .ok (.istore 4, 2) := by decide +kernel
theorem dX2_fewestByGreatest_71 : decode cX2_fewestByGreatest 71 = .ok (.iinc 5 1, 3) := by decide +kernel
theorem dX2_fewestByGreatest_74 : decode cX2_fewestByGreatest 74 = .ok (.goto (-53), 3) := by decide +kernel
theorem dX2_fewestByGreatest_77 : decode cX2_fewestByGreatest 77 = .ok (.iconst (-1), 1) := by decide +kernel
theorem dX2_fewestByGreatest_78 : decode cX2_fewestByGreatest 78 = .ok (.ireturn, 1) := by decide +kernel
set_option maxRecDepth 20000 in
theorem ggX2_fewestBySets_X2_fillFree : GoodIn wsX2_fewestBySets wsX2_fillFree := goodIn_r _ [6, 7, 1, 8, 9, 10, 11, 12, 13, 14, 15, 16, 17, 18, 19, 20, 21, 22, 23, 24, 25, 26, 27, 28, 29, 30, 31, 47, 48, 49, 50, 51, 52, 53, 54, 55, 56, 57, 58, 59, 60, 61, 62, 63, 64, 65, 66, 67, 68, 69, 70, 71] (by decide +kernel) (by decide +kernel)
set_option maxRecDepth 20000 in
theorem gX2_fewestBySets_X2_fillFree : GoodIn wsX2_fewestBySets (wsV RX2 290 RX2 yX2_fillFree wsX2_fillFree) := goodIn_app (goodIn_of _ (by decide +kernel)) ggX2_fewestBySets_X2_fillFree
set_option maxRecDepth 20000 in
theorem ggX2_fewestBySets_X0_cover : GoodIn wsX2_fewestBySets wsX0_cover := goodIn_r _ [35, 18, 19, 20, 11, 21, 22, 23, 24, 25, 26, 27, 28, 29, 30, 31, 56, 57, 58, 59, 60, 61, 62, 63, 64, 65, 66, 67, 68, 69, 70, 71] (by decide +kernel) (by decide +kernel)
set_option maxRecDepth 20000 in
theorem gX2_fewestBySets_X0_cover : GoodIn wsX2_fewestBySets (wsV RX2 284 RX0 yX0_cover wsX0_cover) := goodIn_app (goodIn_of _ (by decide +kernel)) ggX2_fewestBySets_X0_cover
set_option maxRecDepth 20000 in
theorem ggX2_fewestBySets_J6_bitCount_0f7a4 : GoodIn wsX2_fewestBySets wsJ6_bitCount_0f7a4 := goodIn_r _ [39, 40, 41, 42] (by decide +kernel) (by decide +kernel)
set_option maxRecDepth 20000 in
theorem gX2_fewestBySets_J6_bitCount_0f7a4 : GoodIn wsX2_fewestBySets (va_wsS RX2 296 yJ6_bitCount_0f7a4 wsJ6_bitCount_0f7a4) := goodIn_app (goodIn_of _ (by decide +kernel)) ggX2_fewestBySets_J6_bitCount_0f7a4
set_option maxRecDepth 20000 in
theorem ggX2_fewestBySets_X2_freeOf : GoodIn wsX2_fewestBySets wsX2_freeOf := goodIn_r _ [46, 7, 47, 48, 49, 50, 51, 52, 53, 54, 55] (by decide +kernel) (by decide +kernel)
set_option maxRecDepth 20000 in
theorem gX2_fewestBySets_X2_freeOf : GoodIn wsX2_fewestBySets (wsV RX2 301 RX2 yX2_freeOf wsX2_freeOf) := goodIn_app (goodIn_of _ (by decide +kernel)) ggX2_fewestBySets_X2_freeOf
theorem dX2_fewestBySets_0 : decode cX2_fewestBySets 0 = .ok (.aload_n 0, 1) := by decide +kernel
theorem dX2_fewestBySets_1 : decode cX2_fewestBySets 1 = .ok (.invokevirtual 290, 3) := by decide +kernel
theorem dX2_fewestBySets_4 : decode cX2_fewestBySets 4 = .ok (.aload_n 0, 1) := by decide +kernel
theorem dX2_fewestBySets_5 : decode cX2_fewestBySets 5 = .ok (.getfield 10, 3) := by decide +kernel
theorem dX2_fewestBySets_8 : decode cX2_fewestBySets 8 = .ok (.iload_n 1, 1) := by decide +kernel
theorem dX2_fewestBySets_9 : decode cX2_fewestBySets 9 = .ok (.invokevirtual 284, 3) := by decide +kernel
theorem dX2_fewestBySets_12 : decode cX2_fewestBySets 12 = .ok (.istore_n 3, 1) := by decide +kernel
theorem dX2_fewestBySets_13 : decode cX2_fewestBySets 13 = .ok (.iconst (-1), 1) := by decide +kernel
theorem dX2_fewestBySets_14 : decode cX2_fewestBySets 14 = .ok (.istore 4, 2) := by decide +kernel
theorem dX2_fewestBySets_16 : decode cX2_fewestBySets 16 = .ok (.iconst 0, 1) := by decide +kernel
theorem dX2_fewestBySets_17 : decode cX2_fewestBySets 17 = .ok (.istore 5, 2) := by decide +kernel
theorem dX2_fewestBySets_19 : decode cX2_fewestBySets 19 = .ok (.iload 5, 2) := by decide +kernel
theorem dX2_fewestBySets_21 : decode cX2_fewestBySets 21 = .ok (.bipush 64, 2) := by decide +kernel
theorem dX2_fewestBySets_23 : decode cX2_fewestBySets 23 = .ok (.if_icmp .ge 66, 3) := by decide +kernel
theorem dX2_fewestBySets_26 : decode cX2_fewestBySets 26 = .ok (.iload 5, 2) := by decide +kernel
theorem dX2_fewestBySets_28 : decode cX2_fewestBySets 28 = .ok (.invokestatic 296, 3) := by decide +kernel
theorem dX2_fewestBySets_31 : decode cX2_fewestBySets 31 = .ok (.istore 6, 2) := by decide +kernel
theorem dX2_fewestBySets_33 : decode cX2_fewestBySets 33 = .ok (.iload 5, 2) := by decide +kernel
theorem dX2_fewestBySets_35 : decode cX2_fewestBySets 35 = .ok (.iload_n 1, 1) := by decide +kernel
theorem dX2_fewestBySets_36 : decode cX2_fewestBySets 36 = .ok (.ishr, 1) := by decide +kernel
theorem dX2_fewestBySets_37 : decode cX2_fewestBySets 37 = .ok (.iconst 1, 1) := by decide +kernel
theorem dX2_fewestBySets_38 : decode cX2_fewestBySets 38 = .ok (.iand, 1) := by decide +kernel
theorem dX2_fewestBySets_39 : decode cX2_fewestBySets 39 = .ok (.ifCond .ne 7, 3) := by decide +kernel
theorem dX2_fewestBySets_42 : decode cX2_fewestBySets 42 = .ok (.iconst 1, 1) := by decide +kernel
theorem dX2_fewestBySets_43 : decode cX2_fewestBySets 43 = .ok (.goto 4, 3) := by decide +kernel
theorem dX2_fewestBySets_46 : decode cX2_fewestBySets 46 = .ok (.iconst 0, 1) := by decide +kernel
theorem dX2_fewestBySets_47 : decode cX2_fewestBySets 47 = .ok (.istore 7, 2) := by decide +kernel
theorem dX2_fewestBySets_49 : decode cX2_fewestBySets 49 = .ok (.iload 7, 2) := by decide +kernel
theorem dX2_fewestBySets_51 : decode cX2_fewestBySets 51 = .ok (.ifCond .eq 32, 3) := by decide +kernel
theorem dX2_fewestBySets_54 : decode cX2_fewestBySets 54 = .ok (.iload 4, 2) := by decide +kernel
theorem dX2_fewestBySets_56 : decode cX2_fewestBySets 56 = .ok (.iconst (-1), 1) := by decide +kernel
theorem dX2_fewestBySets_57 : decode cX2_fewestBySets 57 = .ok (.if_icmp .eq 10, 3) := by decide +kernel
theorem dX2_fewestBySets_60 : decode cX2_fewestBySets 60 = .ok (.iload 6, 2) := by decide +kernel
theorem dX2_fewestBySets_62 : decode cX2_fewestBySets 62 = .ok (.iload 4, 2) := by decide +kernel
theorem dX2_fewestBySets_64 : decode cX2_fewestBySets 64 = .ok (.if_icmp .ge 19, 3) := by decide +kernel
theorem dX2_fewestBySets_67 : decode cX2_fewestBySets 67 = .ok (.iload_n 3, 1) := by decide +kernel
theorem dX2_fewestBySets_68 : decode cX2_fewestBySets 68 = .ok (.aload_n 0, 1) := by decide +kernel
theorem dX2_fewestBySets_69 : decode cX2_fewestBySets 69 = .ok (.iload 5, 2) := by decide +kernel
theorem dX2_fewestBySets_71 : decode cX2_fewestBySets 71 = .ok (.invokevirtual 301, 3) := by decide +kernel
theorem dX2_fewestBySets_74 : decode cX2_fewestBySets 74 = .ok (.iadd, 1) := by decide +kernel
theorem dX2_fewestBySets_75 : decode cX2_fewestBySets 75 = .ok (.iload_n 2, 1) := by decide +kernel
theorem dX2_fewestBySets_76 : decode cX2_fewestBySets 76 = .ok (.if_icmp .lt 7, 3) := by decide +kernel
theorem dX2_fewestBySets_79 : decode cX2_fewestBySets 79 = .ok (.iload 6, 2) := by decide +kernel
theorem dX2_fewestBySets_81 : decode cX2_fewestBySets 81 = .ok (.istore 4, 2) := by decide +kernel
theorem dX2_fewestBySets_83 : decode cX2_fewestBySets 83 = .ok (.iinc 5 1, 3) := by decide +kernel
theorem dX2_fewestBySets_86 : decode cX2_fewestBySets 86 = .ok (.goto (-67), 3) := by decide +kernel
theorem dX2_fewestBySets_89 : decode cX2_fewestBySets 89 = .ok (.iload 4, 2) := by decide +kernel
theorem dX2_fewestBySets_91 : decode cX2_fewestBySets 91 = .ok (.ireturn, 1) := by decide +kernel
set_option maxRecDepth 20000 in
theorem ggX2_fillFree_X0_freeShares : GoodIn wsX2_fillFree wsX0_freeShares := goodIn_r _ [7, 8, 9, 10, 11, 12, 13, 14, 15, 6, 16, 17, 18, 19, 20, 21, 22, 23, 24, 25, 26, 36, 37, 38, 39, 40, 41, 42, 43, 44, 45, 46, 47, 48, 49, 50, 51] (by decide +kernel) (by decide +kernel)
set_option maxRecDepth 20000 in
theorem gX2_fillFree_X0_freeShares : GoodIn wsX2_fillFree (wsV RX2 304 RX0 yX0_freeShares wsX0_freeShares) := goodIn_app (goodIn_of _ (by decide +kernel)) ggX2_fillFree_X0_freeShares
theorem dX2_fillFree_0 : decode cX2_fillFree 0 = .ok (.iconst 0, 1) := by decide +kernel
theorem dX2_fillFree_1 : decode cX2_fillFree 1 = .ok (.istore_n 1, 1) := by decide +kernel
theorem dX2_fillFree_2 : decode cX2_fillFree 2 = .ok (.iload_n 1, 1) := by decide +kernel
theorem dX2_fillFree_3 : decode cX2_fillFree 3 = .ok (.bipush 6, 2) := by decide +kernel
theorem dX2_fillFree_5 : decode cX2_fillFree 5 = .ok (.if_icmp .ge 23, 3) := by decide +kernel
theorem dX2_fillFree_8 : decode cX2_fillFree 8 = .ok (.aload_n 0, 1) := by decide +kernel
theorem dX2_fillFree_9 : decode cX2_fillFree 9 = .ok (.getfield 38, 3) := by decide +kernel
theorem dX2_fillFree_12 : decode cX2_fillFree 12 = .ok (.iload_n 1, 1) := by decide +kernel
theorem dX2_fillFree_13 : decode cX2_fillFree 13 = .ok (.aload_n 0, 1) := by decide +kernel
theorem dX2_fillFree_14 : decode cX2_fillFree 14 = .ok (.getfield 10, 3) := by decide +kernel
theorem dX2_fillFree_17 : decode cX2_fillFree 17 = .ok (.iload_n 1, 1) := by decide +kernel
theorem dX2_fillFree_18 : decode cX2_fillFree 18 = .ok (.invokevirtual 304, 3) := by decide +kernel
theorem dX2_fillFree_21 : decode cX2_fillFree 21 = .ok (.iastore, 1) := by decide +kernel
theorem dX2_fillFree_22 : decode cX2_fillFree 22 = .ok (.iinc 1 1, 3) := by decide +kernel
theorem dX2_fillFree_25 : decode cX2_fillFree 25 = .ok (.goto (-23), 3) := by decide +kernel
theorem dX2_fillFree_28 : decode cX2_fillFree 28 = .ok (.return_, 1) := by decide +kernel
theorem dX2_freest_0 : decode cX2_freest 0 = .ok (.iconst (-1), 1) := by decide +kernel
theorem dX2_freest_1 : decode cX2_freest 1 = .ok (.istore_n 2, 1) := by decide +kernel
theorem dX2_freest_2 : decode cX2_freest 2 = .ok (.iconst 0, 1) := by decide +kernel
theorem dX2_freest_3 : decode cX2_freest 3 = .ok (.istore_n 3, 1) := by decide +kernel
theorem dX2_freest_4 : decode cX2_freest 4 = .ok (.iload_n 3, 1) := by decide +kernel
theorem dX2_freest_5 : decode cX2_freest 5 = .ok (.bipush 6, 2) := by decide +kernel
theorem dX2_freest_7 : decode cX2_freest 7 = .ok (.if_icmp .ge 39, 3) := by decide +kernel
theorem dX2_freest_10 : decode cX2_freest 10 = .ok (.iload_n 1, 1) := by decide +kernel
theorem dX2_freest_11 : decode cX2_freest 11 = .ok (.iload_n 3, 1) := by decide +kernel
theorem dX2_freest_12 : decode cX2_freest 12 = .ok (.ishr, 1) := by decide +kernel
theorem dX2_freest_13 : decode cX2_freest 13 = .ok (.iconst 1, 1) := by decide +kernel
theorem dX2_freest_14 : decode cX2_freest 14 = .ok (.iand, 1) := by decide +kernel
theorem dX2_freest_15 : decode cX2_freest 15 = .ok (.ifCond .ne 25, 3) := by decide +kernel
theorem dX2_freest_18 : decode cX2_freest 18 = .ok (.iload_n 2, 1) := by decide +kernel
theorem dX2_freest_19 : decode cX2_freest 19 = .ok (.iconst (-1), 1) := by decide +kernel
theorem dX2_freest_20 : decode cX2_freest 20 = .ok (.if_icmp .eq 18, 3) := by decide +kernel
theorem dX2_freest_23 : decode cX2_freest 23 = .ok (.aload_n 0, 1) := by decide +kernel
theorem dX2_freest_24 : decode cX2_freest 24 = .ok (.getfield 38, 3) := by decide +kernel
theorem dX2_freest_27 : decode cX2_freest 27 = .ok (.iload_n 3, 1) := by decide +kernel
theorem dX2_freest_28 : decode cX2_freest 28 = .ok (.iaload, 1) := by decide +kernel
theorem dX2_freest_29 : decode cX2_freest 29 = .ok (.aload_n 0, 1) := by decide +kernel
theorem dX2_freest_30 : decode cX2_freest 30 = .ok (.getfield 38, 3) := by decide +kernel
theorem dX2_freest_33 : decode cX2_freest 33 = .ok (.iload_n 2, 1) := by decide +kernel
theorem dX2_freest_34 : decode cX2_freest 34 = .ok (.iaload, 1) := by decide +kernel
theorem dX2_freest_35 : decode cX2_freest 35 = .ok (.if_icmp .le 5, 3) := by decide +kernel
theorem dX2_freest_38 : decode cX2_freest 38 = .ok (.iload_n 3, 1) := by decide +kernel
theorem dX2_freest_39 : decode cX2_freest 39 = .ok (.istore_n 2, 1) := by decide +kernel
theorem dX2_freest_40 : decode cX2_freest 40 = .ok (.iinc 3 1, 3) := by decide +kernel
theorem dX2_freest_43 : decode cX2_freest 43 = .ok (.goto (-39), 3) := by decide +kernel
theorem dX2_freest_46 : decode cX2_freest 46 = .ok (.iload_n 2, 1) := by decide +kernel
theorem dX2_freest_47 : decode cX2_freest 47 = .ok (.ireturn, 1) := by decide +kernel
theorem dX2_freeOf_0 : decode cX2_freeOf 0 = .ok (.iconst 0, 1) := by decide +kernel
theorem dX2_freeOf_1 : decode cX2_freeOf 1 = .ok (.istore_n 2, 1) := by decide +kernel
theorem dX2_freeOf_2 : decode cX2_freeOf 2 = .ok (.iconst 0, 1) := by decide +kernel
theorem dX2_freeOf_3 : decode cX2_freeOf 3 = .ok (.istore_n 3, 1) := by decide +kernel
theorem dX2_freeOf_4 : decode cX2_freeOf 4 = .ok (.iload_n 3, 1) := by decide +kernel
theorem dX2_freeOf_5 : decode cX2_freeOf 5 = .ok (.bipush 6, 2) := by decide +kernel
theorem dX2_freeOf_7 : decode cX2_freeOf 7 = .ok (.if_icmp .ge 27, 3) := by decide +kernel
theorem dX2_freeOf_10 : decode cX2_freeOf 10 = .ok (.iload_n 1, 1) := by decide +kernel
theorem dX2_freeOf_11 : decode cX2_freeOf 11 = .ok (.iload_n 3, 1) := by decide +kernel
theorem dX2_freeOf_12 : decode cX2_freeOf 12 = .ok (.ishr, 1) := by decide +kernel
theorem dX2_freeOf_13 : decode cX2_freeOf 13 = .ok (.iconst 1, 1) := by decide +kernel
theorem dX2_freeOf_14 : decode cX2_freeOf 14 = .ok (.iand, 1) := by decide +kernel
theorem dX2_freeOf_15 : decode cX2_freeOf 15 = .ok (.iconst 1, 1) := by decide +kernel
theorem dX2_freeOf_16 : decode cX2_freeOf 16 = .ok (.if_icmp .ne 12, 3) := by decide +kernel
theorem dX2_freeOf_19 : decode cX2_freeOf 19 = .ok (.iload_n 2, 1) := by decide +kernel
theorem dX2_freeOf_20 : decode cX2_freeOf 20 = .ok (.aload_n 0, 1) := by decide +kernel
theorem dX2_freeOf_21 : decode cX2_freeOf 21 = .ok (.getfield 38, 3) := by decide +kernel
theorem dX2_freeOf_24 : decode cX2_freeOf 24 = .ok (.iload_n 3, 1) := by decide +kernel
theorem dX2_freeOf_25 : decode cX2_freeOf 25 = .ok (.iaload, 1) := by decide +kernel
theorem dX2_freeOf_26 : decode cX2_freeOf 26 = .ok (.iadd, 1) := by decide +kernel
theorem dX2_freeOf_27 : decode cX2_freeOf 27 = .ok (.istore_n 2, 1) := by decide +kernel
theorem dX2_freeOf_28 : decode cX2_freeOf 28 = .ok (.iinc 3 1, 3) := by decide +kernel
theorem dX2_freeOf_31 : decode cX2_freeOf 31 = .ok (.goto (-27), 3) := by decide +kernel
theorem dX2_freeOf_34 : decode cX2_freeOf 34 = .ok (.iload_n 2, 1) := by decide +kernel
theorem dX2_freeOf_35 : decode cX2_freeOf 35 = .ok (.ireturn, 1) := by decide +kernel
theorem dJ6_bitCount_0f7a4_0 : decode cJ6_bitCount_0f7a4 0 = .ok (.iload_n 0, 1) := by decide +kernel
theorem dJ6_bitCount_0f7a4_1 : decode cJ6_bitCount_0f7a4 1 = .ok (.iload_n 0, 1) := by decide +kernel
theorem dJ6_bitCount_0f7a4_2 : decode cJ6_bitCount_0f7a4 2 = .ok (.iconst 1, 1) := by decide +kernel
theorem dJ6_bitCount_0f7a4_3 : decode cJ6_bitCount_0f7a4 3 = .ok (.iushr, 1) := by decide +kernel
theorem dJ6_bitCount_0f7a4_4 : decode cJ6_bitCount_0f7a4 4 = .ok (.ldc_w 265, 3) := by decide +kernel
theorem dJ6_bitCount_0f7a4_7 : decode cJ6_bitCount_0f7a4 7 = .ok (.iand, 1) := by decide +kernel
theorem dJ6_bitCount_0f7a4_8 : decode cJ6_bitCount_0f7a4 8 = .ok (.isub, 1) := by decide +kernel
theorem dJ6_bitCount_0f7a4_9 : decode cJ6_bitCount_0f7a4 9 = .ok (.istore_n 0, 1) := by decide +kernel
theorem dJ6_bitCount_0f7a4_10 : decode cJ6_bitCount_0f7a4 10 = .ok (.iload_n 0, 1) := by decide +kernel
theorem dJ6_bitCount_0f7a4_11 : decode cJ6_bitCount_0f7a4 11 = .ok (.ldc_w 266, 3) := by decide +kernel
theorem dJ6_bitCount_0f7a4_14 : decode cJ6_bitCount_0f7a4 14 = .ok (.iand, 1) := by decide +kernel
theorem dJ6_bitCount_0f7a4_15 : decode cJ6_bitCount_0f7a4 15 = .ok (.iload_n 0, 1) := by decide +kernel
theorem dJ6_bitCount_0f7a4_16 : decode cJ6_bitCount_0f7a4 16 = .ok (.iconst 2, 1) := by decide +kernel
theorem dJ6_bitCount_0f7a4_17 : decode cJ6_bitCount_0f7a4 17 = .ok (.iushr, 1) := by decide +kernel
theorem dJ6_bitCount_0f7a4_18 : decode cJ6_bitCount_0f7a4 18 = .ok (.ldc_w 266, 3) := by decide +kernel
theorem dJ6_bitCount_0f7a4_21 : decode cJ6_bitCount_0f7a4 21 = .ok (.iand, 1) := by decide +kernel
theorem dJ6_bitCount_0f7a4_22 : decode cJ6_bitCount_0f7a4 22 = .ok (.iadd, 1) := by decide +kernel
theorem dJ6_bitCount_0f7a4_23 : decode cJ6_bitCount_0f7a4 23 = .ok (.istore_n 0, 1) := by decide +kernel
theorem dJ6_bitCount_0f7a4_24 : decode cJ6_bitCount_0f7a4 24 = .ok (.iload_n 0, 1) := by decide +kernel
theorem dJ6_bitCount_0f7a4_25 : decode cJ6_bitCount_0f7a4 25 = .ok (.iload_n 0, 1) := by decide +kernel
theorem dJ6_bitCount_0f7a4_26 : decode cJ6_bitCount_0f7a4 26 = .ok (.iconst 4, 1) := by decide +kernel
theorem dJ6_bitCount_0f7a4_27 : decode cJ6_bitCount_0f7a4 27 = .ok (.iushr, 1) := by decide +kernel
theorem dJ6_bitCount_0f7a4_28 : decode cJ6_bitCount_0f7a4 28 = .ok (.iadd, 1) := by decide +kernel
theorem dJ6_bitCount_0f7a4_29 : decode cJ6_bitCount_0f7a4 29 = .ok (.ldc_w 267, 3) := by decide +kernel
theorem dJ6_bitCount_0f7a4_32 : decode cJ6_bitCount_0f7a4 32 = .ok (.iand, 1) := by decide +kernel
theorem dJ6_bitCount_0f7a4_33 : decode cJ6_bitCount_0f7a4 33 = .ok (.istore_n 0, 1) := by decide +kernel
theorem dJ6_bitCount_0f7a4_34 : decode cJ6_bitCount_0f7a4 34 = .ok (.iload_n 0, 1) := by decide +kernel
theorem dJ6_bitCount_0f7a4_35 : decode cJ6_bitCount_0f7a4 35 = .ok (.iload_n 0, 1) := by decide +kernel
theorem dJ6_bitCount_0f7a4_36 : decode cJ6_bitCount_0f7a4 36 = .ok (.bipush 8, 2) := by decide +kernel
theorem dJ6_bitCount_0f7a4_38 : decode cJ6_bitCount_0f7a4 38 = .ok (.iushr, 1) := by decide +kernel
theorem dJ6_bitCount_0f7a4_39 : decode cJ6_bitCount_0f7a4 39 = .ok (.iadd, 1) := by decide +kernel
theorem dJ6_bitCount_0f7a4_40 : decode cJ6_bitCount_0f7a4 40 = .ok (.istore_n 0, 1) := by decide +kernel
theorem dJ6_bitCount_0f7a4_41 : decode cJ6_bitCount_0f7a4 41 = .ok (.iload_n 0, 1) := by decide +kernel
theorem dJ6_bitCount_0f7a4_42 : decode cJ6_bitCount_0f7a4 42 = .ok (.iload_n 0, 1) := by decide +kernel
theorem dJ6_bitCount_0f7a4_43 : decode cJ6_bitCount_0f7a4 43 = .ok (.bipush 16, 2) := by decide +kernel
theorem dJ6_bitCount_0f7a4_45 : decode cJ6_bitCount_0f7a4 45 = .ok (.iushr, 1) := by decide +kernel
theorem dJ6_bitCount_0f7a4_46 : decode cJ6_bitCount_0f7a4 46 = .ok (.iadd, 1) := by decide +kernel
theorem dJ6_bitCount_0f7a4_47 : decode cJ6_bitCount_0f7a4 47 = .ok (.istore_n 0, 1) := by decide +kernel
theorem dJ6_bitCount_0f7a4_48 : decode cJ6_bitCount_0f7a4 48 = .ok (.iload_n 0, 1) := by decide +kernel
theorem dJ6_bitCount_0f7a4_49 : decode cJ6_bitCount_0f7a4 49 = .ok (.bipush 63, 2) := by decide +kernel
theorem dJ6_bitCount_0f7a4_51 : decode cJ6_bitCount_0f7a4 51 = .ok (.iand, 1) := by decide +kernel
theorem dJ6_bitCount_0f7a4_52 : decode cJ6_bitCount_0f7a4 52 = .ok (.ireturn, 1) := by decide +kernel
theorem dJ9_max_7cf53_0 : decode cJ9_max_7cf53 0 = .ok (.iload_n 0, 1) := by decide +kernel
theorem dJ9_max_7cf53_1 : decode cJ9_max_7cf53 1 = .ok (.iload_n 1, 1) := by decide +kernel
theorem dJ9_max_7cf53_2 : decode cJ9_max_7cf53 2 = .ok (.if_icmp .lt 7, 3) := by decide +kernel
theorem dJ9_max_7cf53_5 : decode cJ9_max_7cf53 5 = .ok (.iload_n 0, 1) := by decide +kernel
theorem dJ9_max_7cf53_6 : decode cJ9_max_7cf53 6 = .ok (.goto 4, 3) := by decide +kernel
theorem dJ9_max_7cf53_9 : decode cJ9_max_7cf53 9 = .ok (.iload_n 1, 1) := by decide +kernel
theorem dJ9_max_7cf53_10 : decode cJ9_max_7cf53 10 = .ok (.ireturn, 1) := by decide +kernel
theorem dJ9_min_7cf53_0 : decode cJ9_min_7cf53 0 = .ok (.iload_n 0, 1) := by decide +kernel
theorem dJ9_min_7cf53_1 : decode cJ9_min_7cf53 1 = .ok (.iload_n 1, 1) := by decide +kernel
theorem dJ9_min_7cf53_2 : decode cJ9_min_7cf53 2 = .ok (.if_icmp .gt 7, 3) := by decide +kernel
theorem dJ9_min_7cf53_5 : decode cJ9_min_7cf53 5 = .ok (.iload_n 0, 1) := by decide +kernel
theorem dJ9_min_7cf53_6 : decode cJ9_min_7cf53 6 = .ok (.goto 4, 3) := by decide +kernel
theorem dJ9_min_7cf53_9 : decode cJ9_min_7cf53 9 = .ok (.iload_n 1, 1) := by decide +kernel
theorem dJ9_min_7cf53_10 : decode cJ9_min_7cf53 10 = .ok (.ireturn, 1) := by decide +kernel

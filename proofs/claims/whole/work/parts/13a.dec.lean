/-! decode rows and good words of the law's small methods -/
theorem ggL_payIn_X2_payIn : GoodIn wsL_payIn wsX2_payIn := goodIn_ca (goodIn_ca (goodIn_r _ [7, 8, 9, 10, 6, 11, 12, 13, 14, 15, 16, 17, 18, 19, 20, 21, 22, 23, 24, 25, 26, 27, 28, 29, 30, 31, 32, 33, 34, 35, 36, 37, 38, 39, 40, 41, 42, 43, 44, 45, 46, 47, 48, 49, 50, 51, 52, 53, 54, 55, 56, 57, 58, 59, 60, 61, 62, 63, 64, 65, 66, 67, 68, 69, 70, 71, 72, 73, 74, 75, 76, 77, 78, 79, 80, 81, 82, 83, 84, 85, 86, 87, 88, 89, 90, 91, 92, 93] (by decide +kernel) (by decide +kernel)) (goodIn_sub (fun _ h => List.mem_cons_of_mem _ (List.mem_append_left _ (List.mem_append_right _ h))) (by decide +kernel))) (goodIn_sub (fun _ h => List.mem_cons_of_mem _ (List.mem_append_right _ h)) (by decide +kernel))
set_option maxRecDepth 20000 in
theorem gL_payIn_X2_payIn : GoodIn wsL_payIn (wsV RL 7 RX2 yX2_payIn wsX2_payIn) := goodIn_app (goodIn_of _ (by decide +kernel)) ggL_payIn_X2_payIn
theorem dL_payIn_0 : decode cL_payIn 0 = .ok (.aload_n 3, 1) := by decide +kernel
theorem dL_payIn_1 : decode cL_payIn 1 = .ok (.iconst 0, 1) := by decide +kernel
theorem dL_payIn_2 : decode cL_payIn 2 = .ok (.aload_n 0, 1) := by decide +kernel
theorem dL_payIn_3 : decode cL_payIn 3 = .ok (.iload_n 1, 1) := by decide +kernel
theorem dL_payIn_4 : decode cL_payIn 4 = .ok (.iload_n 2, 1) := by decide +kernel
theorem dL_payIn_5 : decode cL_payIn 5 = .ok (.invokevirtual 7, 3) := by decide +kernel
theorem dL_payIn_8 : decode cL_payIn 8 = .ok (.i2l, 1) := by decide +kernel
theorem dL_payIn_9 : decode cL_payIn 9 = .ok (.lastore, 1) := by decide +kernel
theorem dL_payIn_10 : decode cL_payIn 10 = .ok (.goto 11, 3) := by decide +kernel
theorem dL_payIn_13 : decode cL_payIn 13 = .ok (.astore 4, 2) := by decide +kernel
theorem dL_payIn_15 : decode cL_payIn 15 = .ok (.iconst 1, 1) := by decide +kernel
theorem dL_payIn_16 : decode cL_payIn 16 = .ok (.ireturn, 1) := by decide +kernel
theorem dL_payIn_17 : decode cL_payIn 17 = .ok (.astore 4, 2) := by decide +kernel
theorem dL_payIn_19 : decode cL_payIn 19 = .ok (.iconst 2, 1) := by decide +kernel
theorem dL_payIn_20 : decode cL_payIn 20 = .ok (.ireturn, 1) := by decide +kernel
theorem dL_payIn_21 : decode cL_payIn 21 = .ok (.iconst 0, 1) := by decide +kernel
theorem dL_payIn_22 : decode cL_payIn 22 = .ok (.ireturn, 1) := by decide +kernel
set_option maxRecDepth 20000 in
theorem ggL_payOut_X2_payOut : GoodIn wsL_payOut wsX2_payOut := goodIn_ca (goodIn_ca (goodIn_r _ [7, 8, 9, 10, 6, 11, 12, 13, 14, 15, 16, 17, 18, 19, 20, 21, 22, 23, 24, 25, 26, 27, 28, 29, 30, 31, 32, 33, 34, 35, 36, 37, 38, 39, 40, 41, 42, 43, 44, 45, 46, 47, 48, 49, 50, 51, 52, 53, 54, 55, 56, 57, 58, 59, 60, 61, 62, 63, 64, 65, 66, 67, 68, 69, 70, 71, 72, 73, 74, 75, 76, 77, 78, 79, 80, 81, 82, 83, 84, 85, 86, 87, 88, 89, 90, 91, 92, 93, 94, 95, 96, 97, 98, 99, 100, 101, 102, 103, 104, 105, 106, 107, 108, 109, 110, 111] (by decide +kernel) (by decide +kernel)) (goodIn_sub (fun _ h => List.mem_cons_of_mem _ (List.mem_append_left _ (List.mem_append_right _ h))) (by decide +kernel))) (goodIn_sub (fun _ h => List.mem_cons_of_mem _ (List.mem_append_right _ h)) (by decide +kernel))
set_option maxRecDepth 20000 in
theorem gL_payOut_X2_payOut : GoodIn wsL_payOut (wsV RL 17 RX2 yX2_payOut wsX2_payOut) := goodIn_app (goodIn_of _ (by decide +kernel)) ggL_payOut_X2_payOut
theorem dL_payOut_0 : decode cL_payOut 0 = .ok (.aload_n 3, 1) := by decide +kernel
theorem dL_payOut_1 : decode cL_payOut 1 = .ok (.iconst 0, 1) := by decide +kernel
theorem dL_payOut_2 : decode cL_payOut 2 = .ok (.aload_n 0, 1) := by decide +kernel
theorem dL_payOut_3 : decode cL_payOut 3 = .ok (.iload_n 1, 1) := by decide +kernel
theorem dL_payOut_4 : decode cL_payOut 4 = .ok (.iload_n 2, 1) := by decide +kernel
theorem dL_payOut_5 : decode cL_payOut 5 = .ok (.invokevirtual 17, 3) := by decide +kernel
theorem dL_payOut_8 : decode cL_payOut 8 = .ok (.i2l, 1) := by decide +kernel
theorem dL_payOut_9 : decode cL_payOut 9 = .ok (.lastore, 1) := by decide +kernel
theorem dL_payOut_10 : decode cL_payOut 10 = .ok (.goto 11, 3) := by decide +kernel
theorem dL_payOut_13 : decode cL_payOut 13 = .ok (.astore 4, 2) := by decide +kernel
theorem dL_payOut_15 : decode cL_payOut 15 = .ok (.iconst 1, 1) := by decide +kernel
theorem dL_payOut_16 : decode cL_payOut 16 = .ok (.ireturn, 1) := by decide +kernel
theorem dL_payOut_17 : decode cL_payOut 17 = .ok (.astore 4, 2) := by decide +kernel
theorem dL_payOut_19 : decode cL_payOut 19 = .ok (.iconst 2, 1) := by decide +kernel
theorem dL_payOut_20 : decode cL_payOut 20 = .ok (.ireturn, 1) := by decide +kernel
theorem dL_payOut_21 : decode cL_payOut 21 = .ok (.iconst 0, 1) := by decide +kernel
theorem dL_payOut_22 : decode cL_payOut 22 = .ok (.ireturn, 1) := by decide +kernel
set_option maxRecDepth 20000 in
theorem ggL_pledge_X2_pledge : GoodIn wsL_pledge wsX2_pledge := goodIn_ca (goodIn_ca (goodIn_r _ [7, 8, 9, 10, 6, 11, 12, 13, 14, 15, 16, 17, 18, 19, 20, 21, 22, 23, 24, 25, 26, 27, 28, 29, 30, 31, 32, 33, 34, 35, 36, 37, 38, 39, 40, 41, 42, 43, 44, 45, 46, 47, 48, 49, 50, 51, 52, 53, 54, 55, 56, 57, 58, 59, 60, 61, 62, 63, 64, 65, 66, 67, 68, 69, 70, 71, 72, 73, 74, 75, 76, 77, 78, 79, 80, 81, 82, 83, 84, 85, 86, 87, 88, 89, 90, 91, 92, 93, 94, 95, 96, 97, 98, 99, 100, 101, 102, 103, 104, 105, 106, 107, 108, 109, 110, 111, 112, 113, 114, 115, 116, 117] (by decide +kernel) (by decide +kernel)) (goodIn_sub (fun _ h => List.mem_cons_of_mem _ (List.mem_append_left _ (List.mem_append_right _ h))) (by decide +kernel))) (goodIn_sub (fun _ h => List.mem_cons_of_mem _ (List.mem_append_right _ h)) (by decide +kernel))
set_option maxRecDepth 20000 in
theorem gL_pledge_X2_pledge : GoodIn wsL_pledge (wsV RL 20 RX2 yX2_pledge wsX2_pledge) := goodIn_app (goodIn_of _ (by decide +kernel)) ggL_pledge_X2_pledge
theorem dL_pledge_0 : decode cL_pledge 0 = .ok (.aload 4, 2) := by decide +kernel
theorem dL_pledge_2 : decode cL_pledge 2 = .ok (.iconst 0, 1) := by decide +kernel
theorem dL_pledge_3 : decode cL_pledge 3 = .ok (.aload_n 0, 1) := by decide +kernel
theorem dL_pledge_4 : decode cL_pledge 4 = .ok (.iload_n 1, 1) := by decide +kernel
theorem dL_pledge_5 : decode cL_pledge 5 = .ok (.iload_n 2, 1) := by decide +kernel
theorem dL_pledge_6 : decode cL_pledge 6 = .ok (.iload_n 3, 1) := by decide +kernel
theorem dL_pledge_7 : decode cL_pledge 7 = .ok (.invokevirtual 20, 3) := by decide +kernel
theorem dL_pledge_10 : decode cL_pledge 10 = .ok (.i2l, 1) := by decide +kernel
theorem dL_pledge_11 : decode cL_pledge 11 = .ok (.lastore, 1) := by decide +kernel
theorem dL_pledge_12 : decode cL_pledge 12 = .ok (.goto 11, 3) := by decide +kernel
theorem dL_pledge_15 : decode cL_pledge 15 = .ok (.astore 5, 2) := by decide +kernel
theorem dL_pledge_17 : decode cL_pledge 17 = .ok (.iconst 1, 1) := by decide +kernel
theorem dL_pledge_18 : decode cL_pledge 18 = .ok (.ireturn, 1) := by decide +kernel
theorem dL_pledge_19 : decode cL_pledge 19 = .ok (.astore 5, 2) := by decide +kernel
theorem dL_pledge_21 : decode cL_pledge 21 = .ok (.iconst 2, 1) := by decide +kernel
theorem dL_pledge_22 : decode cL_pledge 22 = .ok (.ireturn, 1) := by decide +kernel
theorem dL_pledge_23 : decode cL_pledge 23 = .ok (.iconst 0, 1) := by decide +kernel
theorem dL_pledge_24 : decode cL_pledge 24 = .ok (.ireturn, 1) := by decide +kernel
set_option maxRecDepth 20000 in
theorem ggL_unpledge_X2_unpledge : GoodIn wsL_unpledge wsX2_unpledge := goodIn_ca (goodIn_ca (goodIn_r _ [7, 8, 9, 10, 6, 11, 12, 13, 14, 15, 16, 17, 18, 19, 20, 21, 22, 23, 24, 25, 26, 27, 28, 29, 30, 31, 32, 33, 34, 35, 36, 37, 38, 39, 40, 41, 42, 43, 44, 45, 46, 47, 48, 49, 50, 51, 52, 53, 54, 55, 56, 57, 58, 59, 60, 61, 62, 63, 64, 65, 66, 67, 68, 69, 70, 71, 72, 73, 74, 75, 76, 77, 78, 79, 80, 81, 82, 83, 84, 85, 86, 87, 88, 89, 90, 91, 92, 93, 94, 95, 96, 97, 98, 99, 100, 101, 102, 103, 104, 105, 106, 107, 108, 109, 110, 111, 112, 113, 114] (by decide +kernel) (by decide +kernel)) (goodIn_sub (fun _ h => List.mem_cons_of_mem _ (List.mem_append_left _ (List.mem_append_right _ h))) (by decide +kernel))) (goodIn_sub (fun _ h => List.mem_cons_of_mem _ (List.mem_append_right _ h)) (by decide +kernel))
set_option maxRecDepth 20000 in
theorem gL_unpledge_X2_unpledge : GoodIn wsL_unpledge (wsV RL 24 RX2 yX2_unpledge wsX2_unpledge) := goodIn_app (goodIn_of _ (by decide +kernel)) ggL_unpledge_X2_unpledge
theorem dL_unpledge_0 : decode cL_unpledge 0 = .ok (.aload 4, 2) := by decide +kernel
theorem dL_unpledge_2 : decode cL_unpledge 2 = .ok (.iconst 0, 1) := by decide +kernel
theorem dL_unpledge_3 : decode cL_unpledge 3 = .ok (.aload_n 0, 1) := by decide +kernel
theorem dL_unpledge_4 : decode cL_unpledge 4 = .ok (.iload_n 1, 1) := by decide +kernel
theorem dL_unpledge_5 : decode cL_unpledge 5 = .ok (.iload_n 2, 1) := by decide +kernel
theorem dL_unpledge_6 : decode cL_unpledge 6 = .ok (.iload_n 3, 1) := by decide +kernel
theorem dL_unpledge_7 : decode cL_unpledge 7 = .ok (.invokevirtual 24, 3) := by decide +kernel
theorem dL_unpledge_10 : decode cL_unpledge 10 = .ok (.i2l, 1) := by decide +kernel
theorem dL_unpledge_11 : decode cL_unpledge 11 = .ok (.lastore, 1) := by decide +kernel
theorem dL_unpledge_12 : decode cL_unpledge 12 = .ok (.goto 11, 3) := by decide +kernel
theorem dL_unpledge_15 : decode cL_unpledge 15 = .ok (.astore 5, 2) := by decide +kernel
theorem dL_unpledge_17 : decode cL_unpledge 17 = .ok (.iconst 1, 1) := by decide +kernel
theorem dL_unpledge_18 : decode cL_unpledge 18 = .ok (.ireturn, 1) := by decide +kernel
theorem dL_unpledge_19 : decode cL_unpledge 19 = .ok (.astore 5, 2) := by decide +kernel
theorem dL_unpledge_21 : decode cL_unpledge 21 = .ok (.iconst 2, 1) := by decide +kernel
theorem dL_unpledge_22 : decode cL_unpledge 22 = .ok (.ireturn, 1) := by decide +kernel
theorem dL_unpledge_23 : decode cL_unpledge 23 = .ok (.iconst 0, 1) := by decide +kernel
theorem dL_unpledge_24 : decode cL_unpledge 24 = .ok (.ireturn, 1) := by decide +kernel
set_option maxRecDepth 20000 in
theorem ggL_borrow_X2_borrow : GoodIn wsL_borrow wsX2_borrow := goodIn_ca (goodIn_ca (goodIn_r _ [7, 8, 9, 10, 6, 11, 12, 13, 14, 15, 16, 17, 18, 19, 20, 21, 22, 23, 24, 25, 26, 27, 28, 29, 30, 31, 32, 33, 34, 35, 36, 37, 38, 39, 40, 41, 42, 43, 44, 45, 46, 47, 48, 49, 50, 51, 52, 53, 54, 55, 56, 57, 58, 59, 60, 61, 62, 63, 64, 65, 66, 67, 68, 69, 70, 71, 72, 73, 74, 75, 76, 77, 78, 79, 80, 81, 82, 83, 84, 85, 86, 87, 88, 89, 90, 91, 92, 93, 94, 95, 96, 97, 98, 99, 100, 101, 102, 103, 104, 105, 106, 107, 108, 109, 110, 111, 112, 113, 114, 115, 116, 117, 118, 119, 120, 121, 122, 123, 124, 125, 126, 127, 128] (by decide +kernel) (by decide +kernel)) (goodIn_sub (fun _ h => List.mem_cons_of_mem _ (List.mem_append_left _ (List.mem_append_right _ h))) (by decide +kernel))) (goodIn_sub (fun _ h => List.mem_cons_of_mem _ (List.mem_append_right _ h)) (by decide +kernel))
set_option maxRecDepth 20000 in
theorem gL_borrow_X2_borrow : GoodIn wsL_borrow (wsV RL 27 RX2 yX2_borrow wsX2_borrow) := goodIn_app (goodIn_of _ (by decide +kernel)) ggL_borrow_X2_borrow
theorem dL_borrow_0 : decode cL_borrow 0 = .ok (.aload 4, 2) := by decide +kernel
theorem dL_borrow_2 : decode cL_borrow 2 = .ok (.iconst 0, 1) := by decide +kernel
theorem dL_borrow_3 : decode cL_borrow 3 = .ok (.aload_n 0, 1) := by decide +kernel
theorem dL_borrow_4 : decode cL_borrow 4 = .ok (.iload_n 1, 1) := by decide +kernel
theorem dL_borrow_5 : decode cL_borrow 5 = .ok (.iload_n 2, 1) := by decide +kernel
theorem dL_borrow_6 : decode cL_borrow 6 = .ok (.iload_n 3, 1) := by decide +kernel
theorem dL_borrow_7 : decode cL_borrow 7 = .ok (.invokevirtual 27, 3) := by decide +kernel
theorem dL_borrow_10 : decode cL_borrow 10 = .ok (.i2l, 1) := by decide +kernel
theorem dL_borrow_11 : decode cL_borrow 11 = .ok (.lastore, 1) := by decide +kernel
theorem dL_borrow_12 : decode cL_borrow 12 = .ok (.goto 11, 3) := by decide +kernel
theorem dL_borrow_15 : decode cL_borrow 15 = .ok (.astore 5, 2) := by decide +kernel
theorem dL_borrow_17 : decode cL_borrow 17 = .ok (.iconst 1, 1) := by decide +kernel
theorem dL_borrow_18 : decode cL_borrow 18 = .ok (.ireturn, 1) := by decide +kernel
theorem dL_borrow_19 : decode cL_borrow 19 = .ok (.astore 5, 2) := by decide +kernel
theorem dL_borrow_21 : decode cL_borrow 21 = .ok (.iconst 2, 1) := by decide +kernel
theorem dL_borrow_22 : decode cL_borrow 22 = .ok (.ireturn, 1) := by decide +kernel
theorem dL_borrow_23 : decode cL_borrow 23 = .ok (.iconst 0, 1) := by decide +kernel
theorem dL_borrow_24 : decode cL_borrow 24 = .ok (.ireturn, 1) := by decide +kernel
set_option maxRecDepth 20000 in
theorem ggL_repay_X2_repay : GoodIn wsL_repay wsX2_repay := goodIn_ca (goodIn_ca (goodIn_r _ [7, 8, 9, 10, 6, 11, 12, 13, 14, 15, 16, 17, 18, 19, 20, 21, 22, 23, 24, 25, 26, 27, 28, 29, 30, 31, 32, 33, 34, 35, 36, 37, 38, 39, 40, 41, 42, 43, 44, 45, 46, 47, 48, 49, 50, 51, 52, 53, 54, 55, 56, 57, 58, 59, 60, 61, 62, 63, 64, 65, 66, 67, 68, 69, 70, 71, 72, 73, 74, 75, 76, 77, 78, 79, 80, 81, 82, 83, 84, 85, 86, 87, 88, 89, 90, 91, 92] (by decide +kernel) (by decide +kernel)) (goodIn_sub (fun _ h => List.mem_cons_of_mem _ (List.mem_append_left _ (List.mem_append_right _ h))) (by decide +kernel))) (goodIn_sub (fun _ h => List.mem_cons_of_mem _ (List.mem_append_right _ h)) (by decide +kernel))
set_option maxRecDepth 20000 in
theorem gL_repay_X2_repay : GoodIn wsL_repay (wsV RL 30 RX2 yX2_repay wsX2_repay) := goodIn_app (goodIn_of _ (by decide +kernel)) ggL_repay_X2_repay
theorem dL_repay_0 : decode cL_repay 0 = .ok (.aload_n 3, 1) := by decide +kernel
theorem dL_repay_1 : decode cL_repay 1 = .ok (.iconst 0, 1) := by decide +kernel
theorem dL_repay_2 : decode cL_repay 2 = .ok (.aload_n 0, 1) := by decide +kernel
theorem dL_repay_3 : decode cL_repay 3 = .ok (.iload_n 1, 1) := by decide +kernel
theorem dL_repay_4 : decode cL_repay 4 = .ok (.iload_n 2, 1) := by decide +kernel
theorem dL_repay_5 : decode cL_repay 5 = .ok (.invokevirtual 30, 3) := by decide +kernel
theorem dL_repay_8 : decode cL_repay 8 = .ok (.i2l, 1) := by decide +kernel
theorem dL_repay_9 : decode cL_repay 9 = .ok (.lastore, 1) := by decide +kernel
theorem dL_repay_10 : decode cL_repay 10 = .ok (.goto 11, 3) := by decide +kernel
theorem dL_repay_13 : decode cL_repay 13 = .ok (.astore 4, 2) := by decide +kernel
theorem dL_repay_15 : decode cL_repay 15 = .ok (.iconst 1, 1) := by decide +kernel
theorem dL_repay_16 : decode cL_repay 16 = .ok (.ireturn, 1) := by decide +kernel
theorem dL_repay_17 : decode cL_repay 17 = .ok (.astore 4, 2) := by decide +kernel
theorem dL_repay_19 : decode cL_repay 19 = .ok (.iconst 2, 1) := by decide +kernel
theorem dL_repay_20 : decode cL_repay 20 = .ok (.ireturn, 1) := by decide +kernel
theorem dL_repay_21 : decode cL_repay 21 = .ok (.iconst 0, 1) := by decide +kernel
theorem dL_repay_22 : decode cL_repay 22 = .ok (.ireturn, 1) := by decide +kernel
set_option maxRecDepth 20000 in
theorem ggL_week_X2_week : GoodIn wsL_week wsX2_week := goodIn_ca (goodIn_r _ [6, 7, 8, 9, 10, 11, 12, 13, 14, 15, 16, 17, 18, 5, 19, 20, 21, 22, 23, 24, 25, 26, 27, 28, 29, 30, 31, 32, 33, 34, 35, 36, 37, 38, 39, 40, 41, 42, 43, 44, 45, 46, 47, 48, 49, 50, 51, 52, 53, 54, 55, 56, 57, 58, 59, 60, 61, 62, 63, 64, 65, 66, 67, 68, 69, 70, 71, 72, 73, 74, 75, 76, 77, 78, 79, 80, 81, 82, 83, 84, 85, 86, 87, 88, 89, 90, 91, 92, 93, 94, 95, 96, 97, 98, 99, 100, 101, 102, 103, 104, 105, 106, 107] (by decide +kernel) (by decide +kernel)) (goodIn_sub (fun _ h => List.mem_cons_of_mem _ (List.mem_append_right _ h)) (by decide +kernel))
set_option maxRecDepth 20000 in
theorem gL_week_X2_week : GoodIn wsL_week (wsV RL 33 RX2 yX2_week wsX2_week) := goodIn_app (goodIn_of _ (by decide +kernel)) ggL_week_X2_week
theorem dL_week_0 : decode cL_week 0 = .ok (.aload_n 1, 1) := by decide +kernel
theorem dL_week_1 : decode cL_week 1 = .ok (.iconst 0, 1) := by decide +kernel
theorem dL_week_2 : decode cL_week 2 = .ok (.aload_n 0, 1) := by decide +kernel
theorem dL_week_3 : decode cL_week 3 = .ok (.invokevirtual 33, 3) := by decide +kernel
theorem dL_week_6 : decode cL_week 6 = .ok (.i2l, 1) := by decide +kernel
theorem dL_week_7 : decode cL_week 7 = .ok (.lastore, 1) := by decide +kernel
theorem dL_week_8 : decode cL_week 8 = .ok (.goto 6, 3) := by decide +kernel
theorem dL_week_11 : decode cL_week 11 = .ok (.astore_n 2, 1) := by decide +kernel
theorem dL_week_12 : decode cL_week 12 = .ok (.iconst 1, 1) := by decide +kernel
theorem dL_week_13 : decode cL_week 13 = .ok (.ireturn, 1) := by decide +kernel
theorem dL_week_14 : decode cL_week 14 = .ok (.iconst 0, 1) := by decide +kernel
theorem dL_week_15 : decode cL_week 15 = .ok (.ireturn, 1) := by decide +kernel
set_option maxRecDepth 20000 in
theorem ggL_pass_X2_pass : GoodIn wsL_pass wsX2_pass := goodIn_ca (goodIn_ca (goodIn_r _ [7, 8, 9, 10, 11, 12, 6, 13, 14, 15, 16, 17, 18, 19, 20, 21, 22, 23, 24, 25, 26, 27, 28, 29, 30, 31, 32, 33, 34, 35, 36, 37, 38, 39, 40, 41, 42, 43, 44, 45, 46, 47, 48, 49, 50, 51, 52, 53, 54, 55, 56, 57, 58, 59, 60, 61, 62, 63, 64, 65, 66, 67, 68, 69, 70, 71, 72, 73, 74, 75, 76, 77, 78, 79, 80, 81, 82, 83, 84, 85, 86, 87, 88, 89, 90, 91] (by decide +kernel) (by decide +kernel)) (goodIn_sub (fun _ h => List.mem_cons_of_mem _ (List.mem_append_left _ (List.mem_append_right _ h))) (by decide +kernel))) (goodIn_sub (fun _ h => List.mem_cons_of_mem _ (List.mem_append_right _ h)) (by decide +kernel))
set_option maxRecDepth 20000 in
theorem gL_pass_X2_pass : GoodIn wsL_pass (wsV RL 39 RX2 yX2_pass wsX2_pass) := goodIn_app (goodIn_of _ (by decide +kernel)) ggL_pass_X2_pass
theorem dL_pass_0 : decode cL_pass 0 = .ok (.aload_n 2, 1) := by decide +kernel
theorem dL_pass_1 : decode cL_pass 1 = .ok (.iconst 0, 1) := by decide +kernel
theorem dL_pass_2 : decode cL_pass 2 = .ok (.aload_n 0, 1) := by decide +kernel
theorem dL_pass_3 : decode cL_pass 3 = .ok (.iload_n 1, 1) := by decide +kernel
theorem dL_pass_4 : decode cL_pass 4 = .ok (.invokevirtual 39, 3) := by decide +kernel
theorem dL_pass_7 : decode cL_pass 7 = .ok (.i2l, 1) := by decide +kernel
theorem dL_pass_8 : decode cL_pass 8 = .ok (.lastore, 1) := by decide +kernel
theorem dL_pass_9 : decode cL_pass 9 = .ok (.goto 9, 3) := by decide +kernel
theorem dL_pass_12 : decode cL_pass 12 = .ok (.astore_n 3, 1) := by decide +kernel
theorem dL_pass_13 : decode cL_pass 13 = .ok (.iconst 1, 1) := by decide +kernel
theorem dL_pass_14 : decode cL_pass 14 = .ok (.ireturn, 1) := by decide +kernel
theorem dL_pass_15 : decode cL_pass 15 = .ok (.astore_n 3, 1) := by decide +kernel
theorem dL_pass_16 : decode cL_pass 16 = .ok (.iconst 2, 1) := by decide +kernel
theorem dL_pass_17 : decode cL_pass 17 = .ok (.ireturn, 1) := by decide +kernel
theorem dL_pass_18 : decode cL_pass 18 = .ok (.iconst 0, 1) := by decide +kernel
theorem dL_pass_19 : decode cL_pass 19 = .ok (.ireturn, 1) := by decide +kernel
set_option maxRecDepth 20000 in
theorem ggL_set_X2_set : GoodIn wsL_set wsX2_set := goodIn_ca (goodIn_ca (goodIn_r _ [7, 8, 9, 10, 11, 6, 12, 13, 14, 15, 16, 17, 18, 19, 20, 21, 22, 23, 24, 25, 26, 27, 28, 29, 30, 31, 32, 33, 34, 35, 36, 37, 38, 39, 40, 41, 42, 43, 44, 45, 46, 47, 48, 49, 50, 51, 52, 53, 54, 55, 56, 57, 58, 59, 60, 61, 62, 63, 64, 65, 66, 67, 68, 69, 70, 71, 72, 73, 74, 75, 76, 77, 78, 79, 80, 81, 82, 83, 84, 85, 86] (by decide +kernel) (by decide +kernel)) (goodIn_sub (fun _ h => List.mem_cons_of_mem _ (List.mem_append_left _ (List.mem_append_right _ h))) (by decide +kernel))) (goodIn_sub (fun _ h => List.mem_cons_of_mem _ (List.mem_append_right _ h)) (by decide +kernel))
set_option maxRecDepth 20000 in
theorem gL_set_X2_set : GoodIn wsL_set (wsV RL 43 RX2 yX2_set wsX2_set) := goodIn_app (goodIn_of _ (by decide +kernel)) ggL_set_X2_set
theorem dL_set_0 : decode cL_set 0 = .ok (.aload_n 3, 1) := by decide +kernel
theorem dL_set_1 : decode cL_set 1 = .ok (.iconst 0, 1) := by decide +kernel
theorem dL_set_2 : decode cL_set 2 = .ok (.aload_n 0, 1) := by decide +kernel
theorem dL_set_3 : decode cL_set 3 = .ok (.iload_n 1, 1) := by decide +kernel
theorem dL_set_4 : decode cL_set 4 = .ok (.iload_n 2, 1) := by decide +kernel
theorem dL_set_5 : decode cL_set 5 = .ok (.invokevirtual 43, 3) := by decide +kernel
theorem dL_set_8 : decode cL_set 8 = .ok (.i2l, 1) := by decide +kernel
theorem dL_set_9 : decode cL_set 9 = .ok (.lastore, 1) := by decide +kernel
theorem dL_set_10 : decode cL_set 10 = .ok (.goto 11, 3) := by decide +kernel
theorem dL_set_13 : decode cL_set 13 = .ok (.astore 4, 2) := by decide +kernel
theorem dL_set_15 : decode cL_set 15 = .ok (.iconst 1, 1) := by decide +kernel
theorem dL_set_16 : decode cL_set 16 = .ok (.ireturn, 1) := by decide +kernel
theorem dL_set_17 : decode cL_set 17 = .ok (.astore 4, 2) := by decide +kernel
theorem dL_set_19 : decode cL_set 19 = .ok (.iconst 2, 1) := by decide +kernel
theorem dL_set_20 : decode cL_set 20 = .ok (.ireturn, 1) := by decide +kernel
theorem dL_set_21 : decode cL_set 21 = .ok (.iconst 0, 1) := by decide +kernel
theorem dL_set_22 : decode cL_set 22 = .ok (.ireturn, 1) := by decide +kernel
set_option maxRecDepth 20000 in
theorem ggL_append_X2_append : GoodIn wsL_append wsX2_append := goodIn_ca (goodIn_ca (goodIn_r _ [7, 8, 9, 10, 11, 12, 13, 6, 14, 15, 16, 17, 18, 19, 20, 21, 22, 23, 24, 25] (by decide +kernel) (by decide +kernel)) (goodIn_sub (fun _ h => List.mem_cons_of_mem _ (List.mem_append_left _ (List.mem_append_right _ h))) (by decide +kernel))) (goodIn_sub (fun _ h => List.mem_cons_of_mem _ (List.mem_append_right _ h)) (by decide +kernel))
set_option maxRecDepth 20000 in
theorem gL_append_X2_append : GoodIn wsL_append (wsV RL 46 RX2 yX2_append wsX2_append) := goodIn_app (goodIn_of _ (by decide +kernel)) ggL_append_X2_append
theorem dL_append_0 : decode cL_append 0 = .ok (.aload_n 2, 1) := by decide +kernel
theorem dL_append_1 : decode cL_append 1 = .ok (.iconst 0, 1) := by decide +kernel
theorem dL_append_2 : decode cL_append 2 = .ok (.aload_n 0, 1) := by decide +kernel
theorem dL_append_3 : decode cL_append 3 = .ok (.iload_n 1, 1) := by decide +kernel
theorem dL_append_4 : decode cL_append 4 = .ok (.invokevirtual 46, 3) := by decide +kernel
theorem dL_append_7 : decode cL_append 7 = .ok (.i2l, 1) := by decide +kernel
theorem dL_append_8 : decode cL_append 8 = .ok (.lastore, 1) := by decide +kernel
theorem dL_append_9 : decode cL_append 9 = .ok (.goto 9, 3) := by decide +kernel
theorem dL_append_12 : decode cL_append 12 = .ok (.astore_n 3, 1) := by decide +kernel
theorem dL_append_13 : decode cL_append 13 = .ok (.iconst 1, 1) := by decide +kernel
theorem dL_append_14 : decode cL_append 14 = .ok (.ireturn, 1) := by decide +kernel
theorem dL_append_15 : decode cL_append 15 = .ok (.astore_n 3, 1) := by decide +kernel
theorem dL_append_16 : decode cL_append 16 = .ok (.iconst 2, 1) := by decide +kernel
theorem dL_append_17 : decode cL_append 17 = .ok (.ireturn, 1) := by decide +kernel
theorem dL_append_18 : decode cL_append 18 = .ok (.iconst 0, 1) := by decide +kernel
theorem dL_append_19 : decode cL_append 19 = .ok (.ireturn, 1) := by decide +kernel
set_option maxRecDepth 20000 in
theorem ggL_run_X2_run : GoodIn wsL_run wsX2_run := goodIn_ca (goodIn_r _ [6, 7, 8, 9, 10, 11, 12, 13, 5, 14, 15, 16, 17, 18, 19, 20, 21, 22, 23, 24, 25, 26, 27, 28, 29, 30, 31, 32, 33, 34, 35, 36, 37, 38, 39, 40, 41, 42, 43, 44, 45, 46, 47, 48, 49, 50, 51, 52, 53, 54, 55, 56, 57, 58, 59, 60, 61, 62, 63, 64, 65, 66, 67, 68, 69, 70, 71, 72, 73, 74, 75, 76, 77, 78, 79, 80, 81, 82, 83, 84, 85, 86, 87, 88, 89, 90, 91, 92, 93, 94, 95, 96, 97, 98, 99, 100, 101, 102, 103, 104, 105, 106, 107, 108, 109, 110, 111, 112, 113, 114, 115, 116, 117, 118, 119, 120, 121, 122, 123, 124, 125, 126, 127, 128, 129, 130, 131, 132, 133, 134, 135, 136, 137, 138, 139, 140, 141, 142, 143, 144, 145, 146, 147, 148, 149, 150, 151, 152, 153, 154, 155, 156, 157, 158, 159, 160, 161, 162, 163, 164, 165, 166, 167, 168, 169, 170, 171, 172, 173, 174, 175, 176, 177, 178, 179, 180, 181, 182, 183, 184, 185, 186, 187, 188, 189, 190, 191, 192, 193, 194, 195, 196, 197, 198, 199, 200, 201, 202, 203, 204, 205, 206, 207, 208, 209, 210, 211, 212, 213, 214, 215, 216, 217, 218, 219, 220, 221, 222, 223, 224, 225, 226, 227, 228, 229, 230, 231, 232, 233, 234, 235, 236, 237, 238, 239, 240] (by decide +kernel) (by decide +kernel)) (goodIn_sub (fun _ h => List.mem_cons_of_mem _ (List.mem_append_right _ h)) (by decide +kernel))
set_option maxRecDepth 20000 in
theorem gL_run_X2_run : GoodIn wsL_run (wsV RL 49 RX2 yX2_run wsX2_run) := goodIn_app (goodIn_of _ (by decide +kernel)) ggL_run_X2_run
theorem dL_run_0 : decode cL_run 0 = .ok (.aload_n 1, 1) := by decide +kernel
theorem dL_run_1 : decode cL_run 1 = .ok (.iconst 0, 1) := by decide +kernel
theorem dL_run_2 : decode cL_run 2 = .ok (.aload_n 0, 1) := by decide +kernel
theorem dL_run_3 : decode cL_run 3 = .ok (.invokevirtual 49, 3) := by decide +kernel
theorem dL_run_6 : decode cL_run 6 = .ok (.i2l, 1) := by decide +kernel
theorem dL_run_7 : decode cL_run 7 = .ok (.lastore, 1) := by decide +kernel
theorem dL_run_8 : decode cL_run 8 = .ok (.goto 6, 3) := by decide +kernel
theorem dL_run_11 : decode cL_run 11 = .ok (.astore_n 2, 1) := by decide +kernel
theorem dL_run_12 : decode cL_run 12 = .ok (.iconst 1, 1) := by decide +kernel
theorem dL_run_13 : decode cL_run 13 = .ok (.ireturn, 1) := by decide +kernel
theorem dL_run_14 : decode cL_run 14 = .ok (.iconst 0, 1) := by decide +kernel
theorem dL_run_15 : decode cL_run 15 = .ok (.ireturn, 1) := by decide +kernel
set_option maxRecDepth 20000 in
theorem ggL_keep_X2_keep : GoodIn wsL_keep wsX2_keep := goodIn_ca (goodIn_r _ [6, 7, 8, 9, 10, 11, 5, 12, 13, 14, 15, 16, 17, 18, 19, 20, 21, 22, 23, 24, 25, 26, 27, 28, 29, 30, 31, 32, 33, 34, 35, 36, 37, 38, 39, 40, 41, 42, 43, 44, 45, 46, 47, 48, 49, 50, 51, 52, 53, 54, 55, 56, 57, 58, 59, 60, 61, 62, 63, 64, 65, 66, 67, 68, 69, 70, 71, 72, 73, 74, 75, 76, 77, 78, 79] (by decide +kernel) (by decide +kernel)) (goodIn_sub (fun _ h => List.mem_cons_of_mem _ (List.mem_append_right _ h)) (by decide +kernel))
set_option maxRecDepth 20000 in
theorem gL_keep_X2_keep : GoodIn wsL_keep (wsV RL 52 RX2 yX2_keep wsX2_keep) := goodIn_app (goodIn_of _ (by decide +kernel)) ggL_keep_X2_keep
theorem dL_keep_0 : decode cL_keep 0 = .ok (.aload_n 2, 1) := by decide +kernel
theorem dL_keep_1 : decode cL_keep 1 = .ok (.iconst 0, 1) := by decide +kernel
theorem dL_keep_2 : decode cL_keep 2 = .ok (.aload_n 0, 1) := by decide +kernel
theorem dL_keep_3 : decode cL_keep 3 = .ok (.iload_n 1, 1) := by decide +kernel
theorem dL_keep_4 : decode cL_keep 4 = .ok (.invokevirtual 52, 3) := by decide +kernel
theorem dL_keep_7 : decode cL_keep 7 = .ok (.i2l, 1) := by decide +kernel
theorem dL_keep_8 : decode cL_keep 8 = .ok (.lastore, 1) := by decide +kernel
theorem dL_keep_9 : decode cL_keep 9 = .ok (.goto 6, 3) := by decide +kernel
theorem dL_keep_12 : decode cL_keep 12 = .ok (.astore_n 3, 1) := by decide +kernel
theorem dL_keep_13 : decode cL_keep 13 = .ok (.iconst 1, 1) := by decide +kernel
theorem dL_keep_14 : decode cL_keep 14 = .ok (.ireturn, 1) := by decide +kernel
theorem dL_keep_15 : decode cL_keep 15 = .ok (.iconst 0, 1) := by decide +kernel
theorem dL_keep_16 : decode cL_keep 16 = .ok (.ireturn, 1) := by decide +kernel
set_option maxRecDepth 20000 in
theorem ggL_goBack_X2_goBack : GoodIn wsL_goBack wsX2_goBack := goodIn_ca (goodIn_ca (goodIn_r _ [7, 8, 9, 10, 11, 12, 13, 14, 6, 15, 16, 17, 18, 19, 20, 21, 22, 23, 24, 25, 26, 27, 28, 29, 30, 31, 32, 33, 34, 35, 36, 37, 38, 39, 40, 41, 42, 43, 44, 45, 46, 47, 48, 49, 50, 51, 52, 53, 54, 55, 56, 57, 58, 59, 60, 61, 62, 63, 64, 65, 66, 67, 68, 69, 70, 71, 72, 73, 74, 75, 76, 77, 78, 79, 80, 81, 82, 83, 84, 85, 86, 87, 88, 89, 90, 91, 92] (by decide +kernel) (by decide +kernel)) (goodIn_sub (fun _ h => List.mem_cons_of_mem _ (List.mem_append_left _ (List.mem_append_right _ h))) (by decide +kernel))) (goodIn_sub (fun _ h => List.mem_cons_of_mem _ (List.mem_append_right _ h)) (by decide +kernel))
set_option maxRecDepth 20000 in
theorem gL_goBack_X2_goBack : GoodIn wsL_goBack (wsV RL 55 RX2 yX2_goBack wsX2_goBack) := goodIn_app (goodIn_of _ (by decide +kernel)) ggL_goBack_X2_goBack
theorem dL_goBack_0 : decode cL_goBack 0 = .ok (.aload_n 2, 1) := by decide +kernel
theorem dL_goBack_1 : decode cL_goBack 1 = .ok (.iconst 0, 1) := by decide +kernel
theorem dL_goBack_2 : decode cL_goBack 2 = .ok (.aload_n 0, 1) := by decide +kernel
theorem dL_goBack_3 : decode cL_goBack 3 = .ok (.iload_n 1, 1) := by decide +kernel
theorem dL_goBack_4 : decode cL_goBack 4 = .ok (.invokevirtual 55, 3) := by decide +kernel
theorem dL_goBack_7 : decode cL_goBack 7 = .ok (.i2l, 1) := by decide +kernel
theorem dL_goBack_8 : decode cL_goBack 8 = .ok (.lastore, 1) := by decide +kernel
theorem dL_goBack_9 : decode cL_goBack 9 = .ok (.goto 9, 3) := by decide +kernel
theorem dL_goBack_12 : decode cL_goBack 12 = .ok (.astore_n 3, 1) := by decide +kernel
theorem dL_goBack_13 : decode cL_goBack 13 = .ok (.iconst 1, 1) := by decide +kernel
theorem dL_goBack_14 : decode cL_goBack 14 = .ok (.ireturn, 1) := by decide +kernel
theorem dL_goBack_15 : decode cL_goBack 15 = .ok (.astore_n 3, 1) := by decide +kernel
theorem dL_goBack_16 : decode cL_goBack 16 = .ok (.iconst 2, 1) := by decide +kernel
theorem dL_goBack_17 : decode cL_goBack 17 = .ok (.ireturn, 1) := by decide +kernel
theorem dL_goBack_18 : decode cL_goBack 18 = .ok (.iconst 0, 1) := by decide +kernel
theorem dL_goBack_19 : decode cL_goBack 19 = .ok (.ireturn, 1) := by decide +kernel
set_option maxRecDepth 20000 in
theorem ggL_undo_X2_undo : GoodIn wsL_undo wsX2_undo := goodIn_ca (goodIn_r _ [6, 7, 8, 9, 10, 11, 12, 13, 14, 15, 16, 17, 18, 19, 20, 21, 22, 23, 24, 25, 26, 27, 28, 29, 30, 31, 32, 33, 34, 35, 36, 37, 38, 39, 40, 41, 42, 43, 44, 45, 46, 47, 48, 49, 50, 51, 52, 53, 54, 55, 56, 57, 58, 59, 60, 61, 62, 63, 64, 65, 66, 67, 68] (by decide +kernel) (by decide +kernel)) (goodIn_sub (fun _ h => List.mem_cons_of_mem _ (List.mem_append_right _ h)) (by decide +kernel))
set_option maxRecDepth 20000 in
theorem gL_undo_X2_undo : GoodIn wsL_undo (wsV RL 58 RX2 yX2_undo wsX2_undo) := goodIn_app (goodIn_of _ (by decide +kernel)) ggL_undo_X2_undo
theorem dL_undo_0 : decode cL_undo 0 = .ok (.aload_n 1, 1) := by decide +kernel
theorem dL_undo_1 : decode cL_undo 1 = .ok (.iconst 0, 1) := by decide +kernel
theorem dL_undo_2 : decode cL_undo 2 = .ok (.aload_n 0, 1) := by decide +kernel
theorem dL_undo_3 : decode cL_undo 3 = .ok (.invokevirtual 58, 3) := by decide +kernel
theorem dL_undo_6 : decode cL_undo 6 = .ok (.i2l, 1) := by decide +kernel
theorem dL_undo_7 : decode cL_undo 7 = .ok (.lastore, 1) := by decide +kernel
theorem dL_undo_8 : decode cL_undo 8 = .ok (.goto 6, 3) := by decide +kernel
theorem dL_undo_11 : decode cL_undo 11 = .ok (.astore_n 2, 1) := by decide +kernel
theorem dL_undo_12 : decode cL_undo 12 = .ok (.iconst 1, 1) := by decide +kernel
theorem dL_undo_13 : decode cL_undo 13 = .ok (.ireturn, 1) := by decide +kernel
theorem dL_undo_14 : decode cL_undo 14 = .ok (.iconst 0, 1) := by decide +kernel
theorem dL_undo_15 : decode cL_undo 15 = .ok (.ireturn, 1) := by decide +kernel
set_option maxRecDepth 20000 in
theorem ggL_memberOf_X2_memberOf : GoodIn wsL_memberOf wsX2_memberOf := goodIn_ca (goodIn_ca (goodIn_r _ [7, 8, 9, 10, 6, 11, 12, 13, 14, 15, 16, 17, 18, 19, 20, 21, 22, 23, 24, 25, 26, 27, 28, 29, 30, 31, 32, 33, 34, 35, 36, 37, 38, 39, 40, 41, 42, 43, 44, 45, 46, 47, 48, 49, 50, 51, 52, 53, 54, 55, 56, 57, 58, 59, 60, 61, 62, 63, 64, 65, 66, 67, 68, 69, 70, 71, 72, 73, 74, 75, 76, 77, 78, 79, 80, 81, 82, 83] (by decide +kernel) (by decide +kernel)) (goodIn_sub (fun _ h => List.mem_cons_of_mem _ (List.mem_append_left _ (List.mem_append_right _ h))) (by decide +kernel))) (goodIn_sub (fun _ h => List.mem_cons_of_mem _ (List.mem_append_right _ h)) (by decide +kernel))
set_option maxRecDepth 20000 in
theorem gL_memberOf_X2_memberOf : GoodIn wsL_memberOf (wsV RL 61 RX2 yX2_memberOf wsX2_memberOf) := goodIn_app (goodIn_of _ (by decide +kernel)) ggL_memberOf_X2_memberOf
theorem dL_memberOf_0 : decode cL_memberOf 0 = .ok (.aload_n 3, 1) := by decide +kernel
theorem dL_memberOf_1 : decode cL_memberOf 1 = .ok (.iconst 0, 1) := by decide +kernel
theorem dL_memberOf_2 : decode cL_memberOf 2 = .ok (.aload_n 0, 1) := by decide +kernel
theorem dL_memberOf_3 : decode cL_memberOf 3 = .ok (.iload_n 1, 1) := by decide +kernel
theorem dL_memberOf_4 : decode cL_memberOf 4 = .ok (.iload_n 2, 1) := by decide +kernel
theorem dL_memberOf_5 : decode cL_memberOf 5 = .ok (.invokevirtual 61, 3) := by decide +kernel
theorem dL_memberOf_8 : decode cL_memberOf 8 = .ok (.i2l, 1) := by decide +kernel
theorem dL_memberOf_9 : decode cL_memberOf 9 = .ok (.lastore, 1) := by decide +kernel
theorem dL_memberOf_10 : decode cL_memberOf 10 = .ok (.goto 11, 3) := by decide +kernel
theorem dL_memberOf_13 : decode cL_memberOf 13 = .ok (.astore 4, 2) := by decide +kernel
theorem dL_memberOf_15 : decode cL_memberOf 15 = .ok (.iconst 1, 1) := by decide +kernel
theorem dL_memberOf_16 : decode cL_memberOf 16 = .ok (.ireturn, 1) := by decide +kernel
theorem dL_memberOf_17 : decode cL_memberOf 17 = .ok (.astore 4, 2) := by decide +kernel
theorem dL_memberOf_19 : decode cL_memberOf 19 = .ok (.iconst 2, 1) := by decide +kernel
theorem dL_memberOf_20 : decode cL_memberOf 20 = .ok (.ireturn, 1) := by decide +kernel
theorem dL_memberOf_21 : decode cL_memberOf 21 = .ok (.iconst 0, 1) := by decide +kernel
theorem dL_memberOf_22 : decode cL_memberOf 22 = .ok (.ireturn, 1) := by decide +kernel
set_option maxRecDepth 20000 in
theorem ggL_pledged_X2_pledged : GoodIn wsL_pledged wsX2_pledged := goodIn_ca (goodIn_r _ [6, 7, 8, 9, 10, 5, 11, 12, 13, 14, 15, 16, 17, 18, 19, 20, 21, 22, 23, 24, 25, 26, 27, 28, 29, 30, 31, 32, 33, 34, 35, 36, 37, 38, 39, 40, 41, 42] (by decide +kernel) (by decide +kernel)) (goodIn_sub (fun _ h => List.mem_cons_of_mem _ (List.mem_append_right _ h)) (by decide +kernel))
set_option maxRecDepth 20000 in
theorem gL_pledged_X2_pledged : GoodIn wsL_pledged (wsV RL 64 RX2 yX2_pledged wsX2_pledged) := goodIn_app (goodIn_of _ (by decide +kernel)) ggL_pledged_X2_pledged
theorem dL_pledged_0 : decode cL_pledged 0 = .ok (.aload_n 3, 1) := by decide +kernel
theorem dL_pledged_1 : decode cL_pledged 1 = .ok (.iconst 0, 1) := by decide +kernel
theorem dL_pledged_2 : decode cL_pledged 2 = .ok (.aload_n 0, 1) := by decide +kernel
theorem dL_pledged_3 : decode cL_pledged 3 = .ok (.iload_n 1, 1) := by decide +kernel
theorem dL_pledged_4 : decode cL_pledged 4 = .ok (.iload_n 2, 1) := by decide +kernel
theorem dL_pledged_5 : decode cL_pledged 5 = .ok (.invokevirtual 64, 3) := by decide +kernel
theorem dL_pledged_8 : decode cL_pledged 8 = .ok (.i2l, 1) := by decide +kernel
theorem dL_pledged_9 : decode cL_pledged 9 = .ok (.lastore, 1) := by decide +kernel
theorem dL_pledged_10 : decode cL_pledged 10 = .ok (.goto 7, 3) := by decide +kernel
theorem dL_pledged_13 : decode cL_pledged 13 = .ok (.astore 4, 2) := by decide +kernel
theorem dL_pledged_15 : decode cL_pledged 15 = .ok (.iconst 1, 1) := by decide +kernel
theorem dL_pledged_16 : decode cL_pledged 16 = .ok (.ireturn, 1) := by decide +kernel
theorem dL_pledged_17 : decode cL_pledged 17 = .ok (.iconst 0, 1) := by decide +kernel
theorem dL_pledged_18 : decode cL_pledged 18 = .ok (.ireturn, 1) := by decide +kernel
set_option maxRecDepth 20000 in
theorem ggL_count_X2_count : GoodIn wsL_count wsX2_count := goodIn_ca (goodIn_r _ [6, 7, 8, 5, 9, 10, 11, 12, 13, 14, 15, 16, 17, 18, 19, 20, 21, 22, 23, 24, 25, 26, 27, 28, 29, 30, 31, 32, 33, 34, 35, 36, 37, 38, 39, 40, 41, 42, 43, 44, 45, 46, 47, 48, 49, 50, 51, 52, 53, 54, 55, 56, 57, 58, 59, 60, 61, 62, 63, 64, 65, 66, 67, 68, 69] (by decide +kernel) (by decide +kernel)) (goodIn_sub (fun _ h => List.mem_cons_of_mem _ (List.mem_append_right _ h)) (by decide +kernel))
set_option maxRecDepth 20000 in
theorem gL_count_X2_count : GoodIn wsL_count (wsV RL 67 RX2 yX2_count wsX2_count) := goodIn_app (goodIn_of _ (by decide +kernel)) ggL_count_X2_count
theorem dL_count_0 : decode cL_count 0 = .ok (.aload_n 2, 1) := by decide +kernel
theorem dL_count_1 : decode cL_count 1 = .ok (.iconst 0, 1) := by decide +kernel
theorem dL_count_2 : decode cL_count 2 = .ok (.aload_n 0, 1) := by decide +kernel
theorem dL_count_3 : decode cL_count 3 = .ok (.iload_n 1, 1) := by decide +kernel
theorem dL_count_4 : decode cL_count 4 = .ok (.invokevirtual 67, 3) := by decide +kernel
theorem dL_count_7 : decode cL_count 7 = .ok (.i2l, 1) := by decide +kernel
theorem dL_count_8 : decode cL_count 8 = .ok (.lastore, 1) := by decide +kernel
theorem dL_count_9 : decode cL_count 9 = .ok (.goto 6, 3) := by decide +kernel
theorem dL_count_12 : decode cL_count 12 = .ok (.astore_n 3, 1) := by decide +kernel
theorem dL_count_13 : decode cL_count 13 = .ok (.iconst 1, 1) := by decide +kernel
theorem dL_count_14 : decode cL_count 14 = .ok (.ireturn, 1) := by decide +kernel
theorem dL_count_15 : decode cL_count 15 = .ok (.iconst 0, 1) := by decide +kernel
theorem dL_count_16 : decode cL_count 16 = .ok (.ireturn, 1) := by decide +kernel
set_option maxRecDepth 20000 in
theorem ggL_setting_X2_setting : GoodIn wsL_setting wsX2_setting := goodIn_ca (goodIn_r _ [6, 7, 8, 9, 10, 5, 11, 12, 13, 14, 15, 16, 17, 18, 19, 20, 21, 22, 23, 24, 25, 26, 27, 28, 29, 30, 31, 32, 33, 34, 35, 36, 37, 38] (by decide +kernel) (by decide +kernel)) (goodIn_sub (fun _ h => List.mem_cons_of_mem _ (List.mem_append_right _ h)) (by decide +kernel))
set_option maxRecDepth 20000 in
theorem gL_setting_X2_setting : GoodIn wsL_setting (wsV RL 70 RX2 yX2_setting wsX2_setting) := goodIn_app (goodIn_of _ (by decide +kernel)) ggL_setting_X2_setting
theorem dL_setting_0 : decode cL_setting 0 = .ok (.aload_n 2, 1) := by decide +kernel
theorem dL_setting_1 : decode cL_setting 1 = .ok (.iconst 0, 1) := by decide +kernel
theorem dL_setting_2 : decode cL_setting 2 = .ok (.aload_n 0, 1) := by decide +kernel
theorem dL_setting_3 : decode cL_setting 3 = .ok (.iload_n 1, 1) := by decide +kernel
theorem dL_setting_4 : decode cL_setting 4 = .ok (.invokevirtual 70, 3) := by decide +kernel
theorem dL_setting_7 : decode cL_setting 7 = .ok (.i2l, 1) := by decide +kernel
theorem dL_setting_8 : decode cL_setting 8 = .ok (.lastore, 1) := by decide +kernel
theorem dL_setting_9 : decode cL_setting 9 = .ok (.goto 6, 3) := by decide +kernel
theorem dL_setting_12 : decode cL_setting 12 = .ok (.astore_n 3, 1) := by decide +kernel
theorem dL_setting_13 : decode cL_setting 13 = .ok (.iconst 1, 1) := by decide +kernel
theorem dL_setting_14 : decode cL_setting 14 = .ok (.ireturn, 1) := by decide +kernel
theorem dL_setting_15 : decode cL_setting 15 = .ok (.iconst 0, 1) := by decide +kernel
theorem dL_setting_16 : decode cL_setting 16 = .ok (.ireturn, 1) := by decide +kernel
set_option maxRecDepth 20000 in
theorem ggL_whyNot_X2_whyNot : GoodIn wsL_whyNot wsX2_whyNot := goodIn_ca (goodIn_ca (goodIn_r _ [7, 8, 9, 10, 6, 11, 12, 13, 14, 15, 16, 17, 18, 19, 20, 21, 22, 23, 24, 25, 26, 27, 28, 29, 30, 31, 32, 33, 34, 35, 36, 37, 38, 39, 40, 41, 42, 43, 44, 45, 46, 47, 48, 49, 50, 51, 52, 53, 54, 55, 56, 57, 58, 59, 60, 61, 62, 63, 64, 65, 66, 67, 68, 69, 70, 71, 72, 73, 74, 75, 76, 77, 78, 79, 80, 81, 82, 83, 84, 85, 86, 87, 88] (by decide +kernel) (by decide +kernel)) (goodIn_sub (fun _ h => List.mem_cons_of_mem _ (List.mem_append_left _ (List.mem_append_right _ h))) (by decide +kernel))) (goodIn_sub (fun _ h => List.mem_cons_of_mem _ (List.mem_append_right _ h)) (by decide +kernel))
set_option maxRecDepth 20000 in
theorem gL_whyNot_X2_whyNot : GoodIn wsL_whyNot (wsV RL 73 RX2 yX2_whyNot wsX2_whyNot) := goodIn_app (goodIn_of _ (by decide +kernel)) ggL_whyNot_X2_whyNot
theorem dL_whyNot_0 : decode cL_whyNot 0 = .ok (.aload_n 3, 1) := by decide +kernel
theorem dL_whyNot_1 : decode cL_whyNot 1 = .ok (.iconst 0, 1) := by decide +kernel
theorem dL_whyNot_2 : decode cL_whyNot 2 = .ok (.aload_n 0, 1) := by decide +kernel
theorem dL_whyNot_3 : decode cL_whyNot 3 = .ok (.iload_n 1, 1) := by decide +kernel
theorem dL_whyNot_4 : decode cL_whyNot 4 = .ok (.iload_n 2, 1) := by decide +kernel
theorem dL_whyNot_5 : decode cL_whyNot 5 = .ok (.invokevirtual 73, 3) := by decide +kernel
theorem dL_whyNot_8 : decode cL_whyNot 8 = .ok (.i2l, 1) := by decide +kernel
theorem dL_whyNot_9 : decode cL_whyNot 9 = .ok (.lastore, 1) := by decide +kernel
theorem dL_whyNot_10 : decode cL_whyNot 10 = .ok (.goto 11, 3) := by decide +kernel
theorem dL_whyNot_13 : decode cL_whyNot 13 = .ok (.astore 4, 2) := by decide +kernel
theorem dL_whyNot_15 : decode cL_whyNot 15 = .ok (.iconst 1, 1) := by decide +kernel
theorem dL_whyNot_16 : decode cL_whyNot 16 = .ok (.ireturn, 1) := by decide +kernel
theorem dL_whyNot_17 : decode cL_whyNot 17 = .ok (.astore 4, 2) := by decide +kernel
theorem dL_whyNot_19 : decode cL_whyNot 19 = .ok (.iconst 2, 1) := by decide +kernel
theorem dL_whyNot_20 : decode cL_whyNot 20 = .ok (.ireturn, 1) := by decide +kernel
theorem dL_whyNot_21 : decode cL_whyNot 21 = .ok (.iconst 0, 1) := by decide +kernel
theorem dL_whyNot_22 : decode cL_whyNot 22 = .ok (.ireturn, 1) := by decide +kernel
set_option maxRecDepth 20000 in
theorem ggL_greatest_X2_greatest : GoodIn wsL_greatest wsX2_greatest := goodIn_ca (goodIn_ca (goodIn_r _ [7, 8, 9, 6, 10, 11, 12, 13, 14, 15, 16, 17, 18, 19, 20, 21, 22, 23, 24, 25, 26, 27, 28, 29, 30, 31, 32, 33, 34, 35, 36, 37, 38, 39, 40, 41, 42, 43, 44, 45, 46, 47, 48, 49, 50, 51, 52, 53, 54, 55, 56, 57, 58, 59, 60, 61, 62, 63, 64, 65, 66, 67, 68, 69, 70, 71, 72, 73, 74, 75, 76, 77, 78, 79, 80, 81, 82, 83, 84, 85, 86, 87, 88, 89, 90, 91, 92, 93, 94, 95, 96, 97] (by decide +kernel) (by decide +kernel)) (goodIn_sub (fun _ h => List.mem_cons_of_mem _ (List.mem_append_left _ (List.mem_append_right _ h))) (by decide +kernel))) (goodIn_sub (fun _ h => List.mem_cons_of_mem _ (List.mem_append_right _ h)) (by decide +kernel))
set_option maxRecDepth 20000 in
theorem gL_greatest_X2_greatest : GoodIn wsL_greatest (wsV RL 76 RX2 yX2_greatest wsX2_greatest) := goodIn_app (goodIn_of _ (by decide +kernel)) ggL_greatest_X2_greatest
theorem dL_greatest_0 : decode cL_greatest 0 = .ok (.aload_n 3, 1) := by decide +kernel
theorem dL_greatest_1 : decode cL_greatest 1 = .ok (.iconst 0, 1) := by decide +kernel
theorem dL_greatest_2 : decode cL_greatest 2 = .ok (.aload_n 0, 1) := by decide +kernel
theorem dL_greatest_3 : decode cL_greatest 3 = .ok (.iload_n 1, 1) := by decide +kernel
theorem dL_greatest_4 : decode cL_greatest 4 = .ok (.iload_n 2, 1) := by decide +kernel
theorem dL_greatest_5 : decode cL_greatest 5 = .ok (.invokevirtual 76, 3) := by decide +kernel
theorem dL_greatest_8 : decode cL_greatest 8 = .ok (.i2l, 1) := by decide +kernel
theorem dL_greatest_9 : decode cL_greatest 9 = .ok (.lastore, 1) := by decide +kernel
theorem dL_greatest_10 : decode cL_greatest 10 = .ok (.goto 11, 3) := by decide +kernel
theorem dL_greatest_13 : decode cL_greatest 13 = .ok (.astore 4, 2) := by decide +kernel
theorem dL_greatest_15 : decode cL_greatest 15 = .ok (.iconst 1, 1) := by decide +kernel
theorem dL_greatest_16 : decode cL_greatest 16 = .ok (.ireturn, 1) := by decide +kernel
theorem dL_greatest_17 : decode cL_greatest 17 = .ok (.astore 4, 2) := by decide +kernel
theorem dL_greatest_19 : decode cL_greatest 19 = .ok (.iconst 2, 1) := by decide +kernel
theorem dL_greatest_20 : decode cL_greatest 20 = .ok (.ireturn, 1) := by decide +kernel
theorem dL_greatest_21 : decode cL_greatest 21 = .ok (.iconst 0, 1) := by decide +kernel
theorem dL_greatest_22 : decode cL_greatest 22 = .ok (.ireturn, 1) := by decide +kernel
set_option maxRecDepth 20000 in
theorem ggL_guarantors_X2_guarantors : GoodIn wsL_guarantors wsX2_guarantors := goodIn_ca (goodIn_ca (goodIn_r _ [7, 8, 9, 6, 10, 11, 12, 13, 14, 15, 16, 17, 18, 19, 20, 21, 22, 23, 24, 25, 26, 27, 28, 29, 30, 31, 32, 33, 34, 35, 36, 37, 38, 39, 40, 41, 42, 43, 44, 45, 46, 47, 48, 49, 50, 51, 52, 53, 54, 55, 56, 57, 58, 59, 60, 61, 62, 63, 64, 65, 66, 67, 68, 69, 70, 71, 72, 73, 74, 75, 76, 77, 78, 79, 80, 81, 82, 83, 84, 85, 86, 87, 88, 89, 90, 91, 92, 93, 94, 95, 96, 97, 98, 99, 100, 101, 102] (by decide +kernel) (by decide +kernel)) (goodIn_sub (fun _ h => List.mem_cons_of_mem _ (List.mem_append_left _ (List.mem_append_right _ h))) (by decide +kernel))) (goodIn_sub (fun _ h => List.mem_cons_of_mem _ (List.mem_append_right _ h)) (by decide +kernel))
set_option maxRecDepth 20000 in
theorem gL_guarantors_X2_guarantors : GoodIn wsL_guarantors (wsV RL 79 RX2 yX2_guarantors wsX2_guarantors) := goodIn_app (goodIn_of _ (by decide +kernel)) ggL_guarantors_X2_guarantors
theorem dL_guarantors_0 : decode cL_guarantors 0 = .ok (.aload 4, 2) := by decide +kernel
theorem dL_guarantors_2 : decode cL_guarantors 2 = .ok (.iconst 0, 1) := by decide +kernel
theorem dL_guarantors_3 : decode cL_guarantors 3 = .ok (.aload_n 0, 1) := by decide +kernel
theorem dL_guarantors_4 : decode cL_guarantors 4 = .ok (.iload_n 1, 1) := by decide +kernel
theorem dL_guarantors_5 : decode cL_guarantors 5 = .ok (.iload_n 2, 1) := by decide +kernel
theorem dL_guarantors_6 : decode cL_guarantors 6 = .ok (.iload_n 3, 1) := by decide +kernel
theorem dL_guarantors_7 : decode cL_guarantors 7 = .ok (.invokevirtual 79, 3) := by decide +kernel
theorem dL_guarantors_10 : decode cL_guarantors 10 = .ok (.i2l, 1) := by decide +kernel
theorem dL_guarantors_11 : decode cL_guarantors 11 = .ok (.lastore, 1) := by decide +kernel
theorem dL_guarantors_12 : decode cL_guarantors 12 = .ok (.goto 11, 3) := by decide +kernel
theorem dL_guarantors_15 : decode cL_guarantors 15 = .ok (.astore 5, 2) := by decide +kernel
theorem dL_guarantors_17 : decode cL_guarantors 17 = .ok (.iconst 1, 1) := by decide +kernel
theorem dL_guarantors_18 : decode cL_guarantors 18 = .ok (.ireturn, 1) := by decide +kernel
theorem dL_guarantors_19 : decode cL_guarantors 19 = .ok (.astore 5, 2) := by decide +kernel
theorem dL_guarantors_21 : decode cL_guarantors 21 = .ok (.iconst 2, 1) := by decide +kernel
theorem dL_guarantors_22 : decode cL_guarantors 22 = .ok (.ireturn, 1) := by decide +kernel
theorem dL_guarantors_23 : decode cL_guarantors 23 = .ok (.iconst 0, 1) := by decide +kernel
theorem dL_guarantors_24 : decode cL_guarantors 24 = .ok (.ireturn, 1) := by decide +kernel
set_option maxRecDepth 20000 in
theorem ggL_weeksLeft_X2_weeksLeft : GoodIn wsL_weeksLeft wsX2_weeksLeft := goodIn_ca (goodIn_ca (goodIn_r _ [7, 8, 9, 10, 6, 11, 12, 13, 14, 15, 16, 17, 18, 19, 20, 21, 22, 23, 24, 25, 26, 27, 28, 29, 30, 31, 32, 33, 34, 35, 36, 37, 38, 39, 40, 41, 42, 43, 44, 45, 46, 47, 48, 49, 50, 51, 52, 53, 54, 55, 56, 57, 58, 59, 60, 61, 62] (by decide +kernel) (by decide +kernel)) (goodIn_sub (fun _ h => List.mem_cons_of_mem _ (List.mem_append_left _ (List.mem_append_right _ h))) (by decide +kernel))) (goodIn_sub (fun _ h => List.mem_cons_of_mem _ (List.mem_append_right _ h)) (by decide +kernel))
set_option maxRecDepth 20000 in
theorem gL_weeksLeft_X2_weeksLeft : GoodIn wsL_weeksLeft (wsV RL 82 RX2 yX2_weeksLeft wsX2_weeksLeft) := goodIn_app (goodIn_of _ (by decide +kernel)) ggL_weeksLeft_X2_weeksLeft
theorem dL_weeksLeft_0 : decode cL_weeksLeft 0 = .ok (.aload_n 3, 1) := by decide +kernel
theorem dL_weeksLeft_1 : decode cL_weeksLeft 1 = .ok (.iconst 0, 1) := by decide +kernel
theorem dL_weeksLeft_2 : decode cL_weeksLeft 2 = .ok (.aload_n 0, 1) := by decide +kernel
theorem dL_weeksLeft_3 : decode cL_weeksLeft 3 = .ok (.iload_n 1, 1) := by decide +kernel
theorem dL_weeksLeft_4 : decode cL_weeksLeft 4 = .ok (.iload_n 2, 1) := by decide +kernel
theorem dL_weeksLeft_5 : decode cL_weeksLeft 5 = .ok (.invokevirtual 82, 3) := by decide +kernel
theorem dL_weeksLeft_8 : decode cL_weeksLeft 8 = .ok (.i2l, 1) := by decide +kernel
theorem dL_weeksLeft_9 : decode cL_weeksLeft 9 = .ok (.lastore, 1) := by decide +kernel
theorem dL_weeksLeft_10 : decode cL_weeksLeft 10 = .ok (.goto 11, 3) := by decide +kernel
theorem dL_weeksLeft_13 : decode cL_weeksLeft 13 = .ok (.astore 4, 2) := by decide +kernel
theorem dL_weeksLeft_15 : decode cL_weeksLeft 15 = .ok (.iconst 1, 1) := by decide +kernel
theorem dL_weeksLeft_16 : decode cL_weeksLeft 16 = .ok (.ireturn, 1) := by decide +kernel
theorem dL_weeksLeft_17 : decode cL_weeksLeft 17 = .ok (.astore 4, 2) := by decide +kernel
theorem dL_weeksLeft_19 : decode cL_weeksLeft 19 = .ok (.iconst 2, 1) := by decide +kernel
theorem dL_weeksLeft_20 : decode cL_weeksLeft 20 = .ok (.ireturn, 1) := by decide +kernel
theorem dL_weeksLeft_21 : decode cL_weeksLeft 21 = .ok (.iconst 0, 1) := by decide +kernel
theorem dL_weeksLeft_22 : decode cL_weeksLeft 22 = .ok (.ireturn, 1) := by decide +kernel
set_option maxRecDepth 20000 in
theorem ggL_ifDivided_X2_ifDivided : GoodIn wsL_ifDivided wsX2_ifDivided := goodIn_ca (goodIn_r _ [6, 7, 8, 9, 5, 10, 11, 12, 13, 14, 15, 16, 17, 18, 19, 20, 21, 22, 23, 24, 25, 26, 27, 28, 29, 30, 31, 32, 33, 34, 35, 36, 37, 38, 39, 40, 41, 42, 43, 44, 45, 46, 47, 48] (by decide +kernel) (by decide +kernel)) (goodIn_sub (fun _ h => List.mem_cons_of_mem _ (List.mem_append_right _ h)) (by decide +kernel))
set_option maxRecDepth 20000 in
theorem gL_ifDivided_X2_ifDivided : GoodIn wsL_ifDivided (wsV RL 85 RX2 yX2_ifDivided wsX2_ifDivided) := goodIn_app (goodIn_of _ (by decide +kernel)) ggL_ifDivided_X2_ifDivided
theorem dL_ifDivided_0 : decode cL_ifDivided 0 = .ok (.aload_n 2, 1) := by decide +kernel
theorem dL_ifDivided_1 : decode cL_ifDivided 1 = .ok (.iconst 0, 1) := by decide +kernel
theorem dL_ifDivided_2 : decode cL_ifDivided 2 = .ok (.aload_n 0, 1) := by decide +kernel
theorem dL_ifDivided_3 : decode cL_ifDivided 3 = .ok (.iload_n 1, 1) := by decide +kernel
theorem dL_ifDivided_4 : decode cL_ifDivided 4 = .ok (.invokevirtual 85, 3) := by decide +kernel
theorem dL_ifDivided_7 : decode cL_ifDivided 7 = .ok (.i2l, 1) := by decide +kernel
theorem dL_ifDivided_8 : decode cL_ifDivided 8 = .ok (.lastore, 1) := by decide +kernel
theorem dL_ifDivided_9 : decode cL_ifDivided 9 = .ok (.goto 6, 3) := by decide +kernel
theorem dL_ifDivided_12 : decode cL_ifDivided 12 = .ok (.astore_n 3, 1) := by decide +kernel
theorem dL_ifDivided_13 : decode cL_ifDivided 13 = .ok (.iconst 1, 1) := by decide +kernel
theorem dL_ifDivided_14 : decode cL_ifDivided 14 = .ok (.ireturn, 1) := by decide +kernel
theorem dL_ifDivided_15 : decode cL_ifDivided 15 = .ok (.iconst 0, 1) := by decide +kernel
theorem dL_ifDivided_16 : decode cL_ifDivided 16 = .ok (.ireturn, 1) := by decide +kernel

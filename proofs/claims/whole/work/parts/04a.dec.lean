theorem dX3_init_0 : decode cX3_init 0 = .ok (.aload_n 0, 1) := by decide +kernel
theorem dX3_init_1 : decode cX3_init 1 = .ok (.invokespecial 1, 3) := by decide +kernel
theorem dX3_init_4 : decode cX3_init 4 = .ok (.aload_n 0, 1) := by decide +kernel
theorem dX3_init_5 : decode cX3_init 5 = .ok (.sipush 738, 3) := by decide +kernel
theorem dX3_init_8 : decode cX3_init 8 = .ok (.newarray .int, 2) := by decide +kernel
theorem dX3_init_10 : decode cX3_init 10 = .ok (.putfield 7, 3) := by decide +kernel
theorem dX3_init_13 : decode cX3_init 13 = .ok (.aload_n 0, 1) := by decide +kernel
theorem dX3_init_14 : decode cX3_init 14 = .ok (.iconst 2, 1) := by decide +kernel
theorem dX3_init_15 : decode cX3_init 15 = .ok (.newarray .boolean, 2) := by decide +kernel
theorem dX3_init_17 : decode cX3_init 17 = .ok (.putfield 13, 3) := by decide +kernel
theorem dX3_init_20 : decode cX3_init 20 = .ok (.aload_n 0, 1) := by decide +kernel
theorem dX3_init_21 : decode cX3_init 21 = .ok (.bipush 60, 2) := by decide +kernel
theorem dX3_init_23 : decode cX3_init 23 = .ok (.newarray .int, 2) := by decide +kernel
theorem dX3_init_25 : decode cX3_init 25 = .ok (.putfield 17, 3) := by decide +kernel
theorem dX3_init_28 : decode cX3_init 28 = .ok (.aload_n 0, 1) := by decide +kernel
theorem dX3_init_29 : decode cX3_init 29 = .ok (.bipush 6, 2) := by decide +kernel
theorem dX3_init_31 : decode cX3_init 31 = .ok (.newarray .int, 2) := by decide +kernel
theorem dX3_init_33 : decode cX3_init 33 = .ok (.putfield 20, 3) := by decide +kernel
theorem dX3_init_36 : decode cX3_init 36 = .ok (.aload_n 0, 1) := by decide +kernel
theorem dX3_init_37 : decode cX3_init 37 = .ok (.getfield 7, 3) := by decide +kernel
theorem dX3_init_40 : decode cX3_init 40 = .ok (.bipush 8, 2) := by decide +kernel
theorem dX3_init_42 : decode cX3_init 42 = .ok (.bipush 20, 2) := by decide +kernel
theorem dX3_init_44 : decode cX3_init 44 = .ok (.iastore, 1) := by decide +kernel
theorem dX3_init_45 : decode cX3_init 45 = .ok (.aload_n 0, 1) := by decide +kernel
theorem dX3_init_46 : decode cX3_init 46 = .ok (.getfield 7, 3) := by decide +kernel
theorem dX3_init_49 : decode cX3_init 49 = .ok (.bipush 9, 2) := by decide +kernel
theorem dX3_init_51 : decode cX3_init 51 = .ok (.iconst 3, 1) := by decide +kernel
theorem dX3_init_52 : decode cX3_init 52 = .ok (.iastore, 1) := by decide +kernel
theorem dX3_init_53 : decode cX3_init 53 = .ok (.return_, 1) := by decide +kernel
theorem dX3_thrown_0 : decode cX3_thrown 0 = .ok (.aload_n 0, 1) := by decide +kernel
theorem dX3_thrown_1 : decode cX3_thrown 1 = .ok (.getfield 23, 3) := by decide +kernel
theorem dX3_thrown_4 : decode cX3_thrown 4 = .ok (.ireturn, 1) := by decide +kernel
theorem dX3_in_0 : decode cX3_in 0 = .ok (.iload_n 0, 1) := by decide +kernel
theorem dX3_in_1 : decode cX3_in 1 = .ok (.iload_n 1, 1) := by decide +kernel
theorem dX3_in_2 : decode cX3_in 2 = .ok (.if_icmp .lt 12, 3) := by decide +kernel
theorem dX3_in_5 : decode cX3_in 5 = .ok (.iload_n 0, 1) := by decide +kernel
theorem dX3_in_6 : decode cX3_in 6 = .ok (.iload_n 2, 1) := by decide +kernel
theorem dX3_in_7 : decode cX3_in 7 = .ok (.if_icmp .gt 7, 3) := by decide +kernel
theorem dX3_in_10 : decode cX3_in 10 = .ok (.iconst 1, 1) := by decide +kernel
theorem dX3_in_11 : decode cX3_in 11 = .ok (.goto 4, 3) := by decide +kernel
theorem dX3_in_14 : decode cX3_in 14 = .ok (.iconst 0, 1) := by decide +kernel
theorem dX3_in_15 : decode cX3_in 15 = .ok (.ireturn, 1) := by decide +kernel
theorem dX3_holds_0 : decode cX3_holds 0 = .ok (.aload_n 0, 1) := by decide +kernel
theorem dX3_holds_1 : decode cX3_holds 1 = .ok (.iload_n 1, 1) := by decide +kernel
theorem dX3_holds_2 : decode cX3_holds 2 = .ok (.putfield 23, 3) := by decide +kernel
theorem dX3_holds_5 : decode cX3_holds 5 = .ok (.iload_n 1, 1) := by decide +kernel
theorem dX3_holds_6 : decode cX3_holds 6 = .ok (.ifCond .ne 7, 3) := by decide +kernel
theorem dX3_holds_9 : decode cX3_holds 9 = .ok (.iconst 1, 1) := by decide +kernel
theorem dX3_holds_10 : decode cX3_holds 10 = .ok (.goto 4, 3) := by decide +kernel
theorem dX3_holds_13 : decode cX3_holds 13 = .ok (.iconst 0, 1) := by decide +kernel
theorem dX3_holds_14 : decode cX3_holds 14 = .ok (.ireturn, 1) := by decide +kernel
set_option maxRecDepth 20000 in
theorem ggX3_isMember_X3_in : GoodIn wsX3_isMember wsX3_in := goodIn_r _ [4] (by decide +kernel) (by decide +kernel)
set_option maxRecDepth 20000 in
theorem gX3_isMember_X3_in : GoodIn wsX3_isMember (va_wsS RX3 27 yX3_in wsX3_in) := goodIn_app (goodIn_of _ (by decide +kernel)) ggX3_isMember_X3_in
theorem dX3_isMember_0 : decode cX3_isMember 0 = .ok (.iload_n 0, 1) := by decide +kernel
theorem dX3_isMember_1 : decode cX3_isMember 1 = .ok (.iconst 0, 1) := by decide +kernel
theorem dX3_isMember_2 : decode cX3_isMember 2 = .ok (.iconst 5, 1) := by decide +kernel
theorem dX3_isMember_3 : decode cX3_isMember 3 = .ok (.invokestatic 27, 3) := by decide +kernel
theorem dX3_isMember_6 : decode cX3_isMember 6 = .ok (.ireturn, 1) := by decide +kernel
set_option maxRecDepth 20000 in
theorem ggX3_isAmount_X3_in : GoodIn wsX3_isAmount wsX3_in := goodIn_r _ [4] (by decide +kernel) (by decide +kernel)
set_option maxRecDepth 20000 in
theorem gX3_isAmount_X3_in : GoodIn wsX3_isAmount (va_wsS RX3 27 yX3_in wsX3_in) := goodIn_app (goodIn_of _ (by decide +kernel)) ggX3_isAmount_X3_in
theorem dX3_isAmount_0 : decode cX3_isAmount 0 = .ok (.iload_n 0, 1) := by decide +kernel
theorem dX3_isAmount_1 : decode cX3_isAmount 1 = .ok (.iconst 1, 1) := by decide +kernel
theorem dX3_isAmount_2 : decode cX3_isAmount 2 = .ok (.sipush 9999, 3) := by decide +kernel
theorem dX3_isAmount_5 : decode cX3_isAmount 5 = .ok (.invokestatic 27, 3) := by decide +kernel
theorem dX3_isAmount_8 : decode cX3_isAmount 8 = .ok (.ireturn, 1) := by decide +kernel
theorem dX3_of_0 : decode cX3_of 0 = .ok (.aload_n 0, 1) := by decide +kernel
theorem dX3_of_1 : decode cX3_of 1 = .ok (.getfield 7, 3) := by decide +kernel
theorem dX3_of_4 : decode cX3_of 4 = .ok (.bipush 10, 2) := by decide +kernel
theorem dX3_of_6 : decode cX3_of 6 = .ok (.bipush 6, 2) := by decide +kernel
theorem dX3_of_8 : decode cX3_of 8 = .ok (.iload_n 1, 1) := by decide +kernel
theorem dX3_of_9 : decode cX3_of 9 = .ok (.imul, 1) := by decide +kernel
theorem dX3_of_10 : decode cX3_of 10 = .ok (.iadd, 1) := by decide +kernel
theorem dX3_of_11 : decode cX3_of 11 = .ok (.iload_n 2, 1) := by decide +kernel
theorem dX3_of_12 : decode cX3_of 12 = .ok (.iadd, 1) := by decide +kernel
theorem dX3_of_13 : decode cX3_of 13 = .ok (.iaload, 1) := by decide +kernel
theorem dX3_of_14 : decode cX3_of 14 = .ok (.ireturn, 1) := by decide +kernel
theorem dX3_adds_0 : decode cX3_adds 0 = .ok (.aload_n 0, 1) := by decide +kernel
theorem dX3_adds_1 : decode cX3_adds 1 = .ok (.getfield 7, 3) := by decide +kernel
theorem dX3_adds_4 : decode cX3_adds 4 = .ok (.bipush 10, 2) := by decide +kernel
theorem dX3_adds_6 : decode cX3_adds 6 = .ok (.bipush 6, 2) := by decide +kernel
theorem dX3_adds_8 : decode cX3_adds 8 = .ok (.iload_n 1, 1) := by decide +kernel
theorem dX3_adds_9 : decode cX3_adds 9 = .ok (.imul, 1) := by decide +kernel
theorem dX3_adds_10 : decode cX3_adds 10 = .ok (.iadd, 1) := by decide +kernel
theorem dX3_adds_11 : decode cX3_adds 11 = .ok (.iload_n 2, 1) := by decide +kernel
theorem dX3_adds_12 : decode cX3_adds 12 = .ok (.iadd, 1) := by decide +kernel
theorem dX3_adds_13 : decode cX3_adds 13 = .ok (.dup2, 1) := by decide +kernel
theorem dX3_adds_14 : decode cX3_adds 14 = .ok (.iaload, 1) := by decide +kernel
theorem dX3_adds_15 : decode cX3_adds 15 = .ok (.iload_n 3, 1) := by decide +kernel
theorem dX3_adds_16 : decode cX3_adds 16 = .ok (.iadd, 1) := by decide +kernel
theorem dX3_adds_17 : decode cX3_adds 17 = .ok (.iastore, 1) := by decide +kernel
theorem dX3_adds_18 : decode cX3_adds 18 = .ok (.return_, 1) := by decide +kernel
theorem dX3_pledgeOf_0 : decode cX3_pledgeOf 0 = .ok (.aload_n 0, 1) := by decide +kernel
theorem dX3_pledgeOf_1 : decode cX3_pledgeOf 1 = .ok (.getfield 7, 3) := by decide +kernel
theorem dX3_pledgeOf_4 : decode cX3_pledgeOf 4 = .ok (.bipush 46, 2) := by decide +kernel
theorem dX3_pledgeOf_6 : decode cX3_pledgeOf 6 = .ok (.bipush 6, 2) := by decide +kernel
theorem dX3_pledgeOf_8 : decode cX3_pledgeOf 8 = .ok (.iload_n 1, 1) := by decide +kernel
theorem dX3_pledgeOf_9 : decode cX3_pledgeOf 9 = .ok (.imul, 1) := by decide +kernel
theorem dX3_pledgeOf_10 : decode cX3_pledgeOf 10 = .ok (.iadd, 1) := by decide +kernel
theorem dX3_pledgeOf_11 : decode cX3_pledgeOf 11 = .ok (.iload_n 2, 1) := by decide +kernel
theorem dX3_pledgeOf_12 : decode cX3_pledgeOf 12 = .ok (.iadd, 1) := by decide +kernel
theorem dX3_pledgeOf_13 : decode cX3_pledgeOf 13 = .ok (.iaload, 1) := by decide +kernel
theorem dX3_pledgeOf_14 : decode cX3_pledgeOf 14 = .ok (.ireturn, 1) := by decide +kernel
set_option maxRecDepth 20000 in
theorem ggX3_pledgedBy_X3_pledgeOf : GoodIn wsX3_pledgedBy wsX3_pledgeOf := goodIn_r _ [5, 6, 7, 8, 9, 10, 11, 12, 13, 14, 15, 16, 17, 18, 19, 20] (by decide +kernel) (by decide +kernel)
set_option maxRecDepth 20000 in
theorem gX3_pledgedBy_X3_pledgeOf : GoodIn wsX3_pledgedBy (wsV RX3 31 RX3 yX3_pledgeOf wsX3_pledgeOf) := goodIn_app (goodIn_of _ (by decide +kernel)) ggX3_pledgedBy_X3_pledgeOf
theorem dX3_pledgedBy_0 : decode cX3_pledgedBy 0 = .ok (.iconst 0, 1) := by decide +kernel
theorem dX3_pledgedBy_1 : decode cX3_pledgedBy 1 = .ok (.istore_n 2, 1) := by decide +kernel
theorem dX3_pledgedBy_2 : decode cX3_pledgedBy 2 = .ok (.iconst 0, 1) := by decide +kernel
theorem dX3_pledgedBy_3 : decode cX3_pledgedBy 3 = .ok (.istore_n 3, 1) := by decide +kernel
theorem dX3_pledgedBy_4 : decode cX3_pledgedBy 4 = .ok (.iload_n 3, 1) := by decide +kernel
theorem dX3_pledgedBy_5 : decode cX3_pledgedBy 5 = .ok (.bipush 6, 2) := by decide +kernel
theorem dX3_pledgedBy_7 : decode cX3_pledgedBy 7 = .ok (.if_icmp .ge 18, 3) := by decide +kernel
theorem dX3_pledgedBy_10 : decode cX3_pledgedBy 10 = .ok (.iload_n 2, 1) := by decide +kernel
theorem dX3_pledgedBy_11 : decode cX3_pledgedBy 11 = .ok (.aload_n 0, 1) := by decide +kernel
theorem dX3_pledgedBy_12 : decode cX3_pledgedBy 12 = .ok (.iload_n 1, 1) := by decide +kernel
theorem dX3_pledgedBy_13 : decode cX3_pledgedBy 13 = .ok (.iload_n 3, 1) := by decide +kernel
theorem dX3_pledgedBy_14 : decode cX3_pledgedBy 14 = .ok (.invokevirtual 31, 3) := by decide +kernel
theorem dX3_pledgedBy_17 : decode cX3_pledgedBy 17 = .ok (.iadd, 1) := by decide +kernel
theorem dX3_pledgedBy_18 : decode cX3_pledgedBy 18 = .ok (.istore_n 2, 1) := by decide +kernel
theorem dX3_pledgedBy_19 : decode cX3_pledgedBy 19 = .ok (.iinc 3 1, 3) := by decide +kernel
theorem dX3_pledgedBy_22 : decode cX3_pledgedBy 22 = .ok (.goto (-18), 3) := by decide +kernel
theorem dX3_pledgedBy_25 : decode cX3_pledgedBy 25 = .ok (.iload_n 2, 1) := by decide +kernel
theorem dX3_pledgedBy_26 : decode cX3_pledgedBy 26 = .ok (.ireturn, 1) := by decide +kernel
set_option maxRecDepth 20000 in
theorem ggX3_pledgedFor_X3_pledgeOf : GoodIn wsX3_pledgedFor wsX3_pledgeOf := goodIn_r _ [5, 6, 7, 8, 9, 10, 11, 12, 13, 14, 15, 16, 17, 18, 19, 20] (by decide +kernel) (by decide +kernel)
set_option maxRecDepth 20000 in
theorem gX3_pledgedFor_X3_pledgeOf : GoodIn wsX3_pledgedFor (wsV RX3 31 RX3 yX3_pledgeOf wsX3_pledgeOf) := goodIn_app (goodIn_of _ (by decide +kernel)) ggX3_pledgedFor_X3_pledgeOf
theorem dX3_pledgedFor_0 : decode cX3_pledgedFor 0 = .ok (.iconst 0, 1) := by decide +kernel
theorem dX3_pledgedFor_1 : decode cX3_pledgedFor 1 = .ok (.istore_n 2, 1) := by decide +kernel
theorem dX3_pledgedFor_2 : decode cX3_pledgedFor 2 = .ok (.iconst 0, 1) := by decide +kernel
theorem dX3_pledgedFor_3 : decode cX3_pledgedFor 3 = .ok (.istore_n 3, 1) := by decide +kernel
theorem dX3_pledgedFor_4 : decode cX3_pledgedFor 4 = .ok (.iload_n 3, 1) := by decide +kernel
theorem dX3_pledgedFor_5 : decode cX3_pledgedFor 5 = .ok (.bipush 6, 2) := by decide +kernel
theorem dX3_pledgedFor_7 : decode cX3_pledgedFor 7 = .ok (.if_icmp .ge 18, 3) := by decide +kernel
theorem dX3_pledgedFor_10 : decode cX3_pledgedFor 10 = .ok (.iload_n 2, 1) := by decide +kernel
theorem dX3_pledgedFor_11 : decode cX3_pledgedFor 11 = .ok (.aload_n 0, 1) := by decide +kernel
theorem dX3_pledgedFor_12 : decode cX3_pledgedFor 12 = .ok (.iload_n 3, 1) := by decide +kernel
theorem dX3_pledgedFor_13 : decode cX3_pledgedFor 13 = .ok (.iload_n 1, 1) := by decide +kernel
theorem dX3_pledgedFor_14 : decode cX3_pledgedFor 14 = .ok (.invokevirtual 31, 3) := by decide +kernel
theorem dX3_pledgedFor_17 : decode cX3_pledgedFor 17 = .ok (.iadd, 1) := by decide +kernel
theorem dX3_pledgedFor_18 : decode cX3_pledgedFor 18 = .ok (.istore_n 2, 1) := by decide +kernel
theorem dX3_pledgedFor_19 : decode cX3_pledgedFor 19 = .ok (.iinc 3 1, 3) := by decide +kernel
theorem dX3_pledgedFor_22 : decode cX3_pledgedFor 22 = .ok (.goto (-18), 3) := by decide +kernel
theorem dX3_pledgedFor_25 : decode cX3_pledgedFor 25 = .ok (.iload_n 2, 1) := by decide +kernel
theorem dX3_pledgedFor_26 : decode cX3_pledgedFor 26 = .ok (.ireturn, 1) := by decide +kernel
set_option maxRecDepth 20000 in
theorem ggX3_own_X3_of : GoodIn wsX3_own wsX3_of := goodIn_r _ [5, 6, 15, 16, 17, 18, 19, 20, 21, 22, 23, 24, 25, 26, 27, 28] (by decide +kernel) (by decide +kernel)
set_option maxRecDepth 20000 in
theorem gX3_own_X3_of : GoodIn wsX3_own (wsV RX3 35 RX3 yX3_of wsX3_of) := goodIn_app (goodIn_of _ (by decide +kernel)) ggX3_own_X3_of
set_option maxRecDepth 20000 in
theorem ggX3_own_X3_pledgedBy : GoodIn wsX3_own wsX3_pledgedBy := goodIn_r _ [10, 11, 12, 13, 4, 14, 6, 15, 16, 17, 18, 19, 20, 21, 22, 23, 24, 25, 26, 27, 28] (by decide +kernel) (by decide +kernel)
set_option maxRecDepth 20000 in
theorem gX3_own_X3_pledgedBy : GoodIn wsX3_own (wsV RX3 38 RX3 yX3_pledgedBy wsX3_pledgedBy) := goodIn_app (goodIn_of _ (by decide +kernel)) ggX3_own_X3_pledgedBy
theorem dX3_own_0 : decode cX3_own 0 = .ok (.aload_n 0, 1) := by decide +kernel
theorem dX3_own_1 : decode cX3_own 1 = .ok (.iload_n 1, 1) := by decide +kernel
theorem dX3_own_2 : decode cX3_own 2 = .ok (.iconst 0, 1) := by decide +kernel
theorem dX3_own_3 : decode cX3_own 3 = .ok (.invokevirtual 35, 3) := by decide +kernel
theorem dX3_own_6 : decode cX3_own 6 = .ok (.aload_n 0, 1) := by decide +kernel
theorem dX3_own_7 : decode cX3_own 7 = .ok (.iload_n 1, 1) := by decide +kernel
theorem dX3_own_8 : decode cX3_own 8 = .ok (.invokevirtual 38, 3) := by decide +kernel
theorem dX3_own_11 : decode cX3_own 11 = .ok (.isub, 1) := by decide +kernel
theorem dX3_own_12 : decode cX3_own 12 = .ok (.ireturn, 1) := by decide +kernel
set_option maxRecDepth 20000 in
theorem ggX3_cover_X3_own : GoodIn wsX3_cover wsX3_own := goodIn_r _ [5, 6, 7, 8, 4, 9, 10, 11, 12, 13, 14, 15, 16, 17, 18, 23, 24, 25, 26, 27, 28, 29, 30, 31, 32, 33, 34, 35, 36] (by decide +kernel) (by decide +kernel)
set_option maxRecDepth 20000 in
theorem gX3_cover_X3_own : GoodIn wsX3_cover (wsV RX3 42 RX3 yX3_own wsX3_own) := goodIn_app (goodIn_of _ (by decide +kernel)) ggX3_cover_X3_own
set_option maxRecDepth 20000 in
theorem ggX3_cover_X3_pledgedFor : GoodIn wsX3_cover wsX3_pledgedFor := goodIn_r _ [22, 15, 16, 17, 4, 18, 10, 23, 24, 25, 26, 27, 28, 29, 30, 31, 32, 33, 34, 35, 36] (by decide +kernel) (by decide +kernel)
set_option maxRecDepth 20000 in
theorem gX3_cover_X3_pledgedFor : GoodIn wsX3_cover (wsV RX3 45 RX3 yX3_pledgedFor wsX3_pledgedFor) := goodIn_app (goodIn_of _ (by decide +kernel)) ggX3_cover_X3_pledgedFor
theorem dX3_cover_0 : decode cX3_cover 0 = .ok (.aload_n 0, 1) := by decide +kernel
theorem dX3_cover_1 : decode cX3_cover 1 = .ok (.iload_n 1, 1) := by decide +kernel
theorem dX3_cover_2 : decode cX3_cover 2 = .ok (.invokevirtual 42, 3) := by decide +kernel
theorem dX3_cover_5 : decode cX3_cover 5 = .ok (.aload_n 0, 1) := by decide +kernel
theorem dX3_cover_6 : decode cX3_cover 6 = .ok (.iload_n 1, 1) := by decide +kernel
theorem dX3_cover_7 : decode cX3_cover 7 = .ok (.invokevirtual 45, 3) := by decide +kernel
theorem dX3_cover_10 : decode cX3_cover 10 = .ok (.iadd, 1) := by decide +kernel
theorem dX3_cover_11 : decode cX3_cover 11 = .ok (.ireturn, 1) := by decide +kernel
set_option maxRecDepth 20000 in
theorem ggX3_free_X3_of : GoodIn wsX3_free wsX3_of := goodIn_r _ [5, 6, 23, 24, 25, 26, 27, 28, 29, 30, 31, 32, 33, 34, 35, 36] (by decide +kernel) (by decide +kernel)
set_option maxRecDepth 20000 in
theorem gX3_free_X3_of : GoodIn wsX3_free (wsV RX3 35 RX3 yX3_of wsX3_of) := goodIn_app (goodIn_of _ (by decide +kernel)) ggX3_free_X3_of
set_option maxRecDepth 20000 in
theorem ggX3_free_X3_pledgedFor : GoodIn wsX3_free wsX3_pledgedFor := goodIn_r _ [10, 11, 12, 13, 4, 14, 6, 23, 24, 25, 26, 27, 28, 29, 30, 31, 32, 33, 34, 35, 36] (by decide +kernel) (by decide +kernel)
set_option maxRecDepth 20000 in
theorem gX3_free_X3_pledgedFor : GoodIn wsX3_free (wsV RX3 45 RX3 yX3_pledgedFor wsX3_pledgedFor) := goodIn_app (goodIn_of _ (by decide +kernel)) ggX3_free_X3_pledgedFor
set_option maxRecDepth 20000 in
theorem ggX3_free_X3_own : GoodIn wsX3_free wsX3_own := goodIn_r _ [18, 1, 2, 3, 4, 5, 6, 19, 20, 21, 22, 11, 12, 13, 14, 23, 24, 25, 26, 27, 28, 29, 30, 31, 32, 33, 34, 35, 36] (by decide +kernel) (by decide +kernel)
set_option maxRecDepth 20000 in
theorem gX3_free_X3_own : GoodIn wsX3_free (wsV RX3 42 RX3 yX3_own wsX3_own) := goodIn_app (goodIn_of _ (by decide +kernel)) ggX3_free_X3_own
theorem dX3_free_0 : decode cX3_free 0 = .ok (.aload_n 0, 1) := by decide +kernel
theorem dX3_free_1 : decode cX3_free 1 = .ok (.iload_n 1, 1) := by decide +kernel
theorem dX3_free_2 : decode cX3_free 2 = .ok (.iconst 2, 1) := by decide +kernel
theorem dX3_free_3 : decode cX3_free 3 = .ok (.invokevirtual 35, 3) := by decide +kernel
theorem dX3_free_6 : decode cX3_free 6 = .ok (.aload_n 0, 1) := by decide +kernel
theorem dX3_free_7 : decode cX3_free 7 = .ok (.iload_n 1, 1) := by decide +kernel
theorem dX3_free_8 : decode cX3_free 8 = .ok (.invokevirtual 45, 3) := by decide +kernel
theorem dX3_free_11 : decode cX3_free 11 = .ok (.isub, 1) := by decide +kernel
theorem dX3_free_12 : decode cX3_free 12 = .ok (.istore_n 2, 1) := by decide +kernel
theorem dX3_free_13 : decode cX3_free 13 = .ok (.aload_n 0, 1) := by decide +kernel
theorem dX3_free_14 : decode cX3_free 14 = .ok (.iload_n 1, 1) := by decide +kernel
theorem dX3_free_15 : decode cX3_free 15 = .ok (.invokevirtual 42, 3) := by decide +kernel
theorem dX3_free_18 : decode cX3_free 18 = .ok (.iload_n 2, 1) := by decide +kernel
theorem dX3_free_19 : decode cX3_free 19 = .ok (.ifCond .le 7, 3) := by decide +kernel
theorem dX3_free_22 : decode cX3_free 22 = .ok (.iload_n 2, 1) := by decide +kernel
theorem dX3_free_23 : decode cX3_free 23 = .ok (.goto 4, 3) := by decide +kernel
theorem dX3_free_26 : decode cX3_free 26 = .ok (.iconst 0, 1) := by decide +kernel
theorem dX3_free_27 : decode cX3_free 27 = .ok (.isub, 1) := by decide +kernel
theorem dX3_free_28 : decode cX3_free 28 = .ok (.ireturn, 1) := by decide +kernel
theorem dX3_fee_0 : decode cX3_fee 0 = .ok (.iload_n 0, 1) := by decide +kernel
theorem dX3_fee_1 : decode cX3_fee 1 = .ok (.iload_n 1, 1) := by decide +kernel
theorem dX3_fee_2 : decode cX3_fee 2 = .ok (.imul, 1) := by decide +kernel
theorem dX3_fee_3 : decode cX3_fee 3 = .ok (.sipush 1000, 3) := by decide +kernel
theorem dX3_fee_6 : decode cX3_fee 6 = .ok (.idiv, 1) := by decide +kernel
theorem dX3_fee_7 : decode cX3_fee 7 = .ok (.ireturn, 1) := by decide +kernel
set_option maxRecDepth 20000 in
theorem ggX3_reason_X3_of : GoodIn wsX3_reason wsX3_of := goodIn_r _ [6, 1, 30, 31, 32, 33, 34, 35, 36, 37, 38, 39, 40, 41, 42, 43] (by decide +kernel) (by decide +kernel)
set_option maxRecDepth 20000 in
theorem gX3_reason_X3_of : GoodIn wsX3_reason (wsV RX3 35 RX3 yX3_of wsX3_of) := goodIn_app (goodIn_of _ (by decide +kernel)) ggX3_reason_X3_of
set_option maxRecDepth 20000 in
theorem ggX3_reason_X3_cover : GoodIn wsX3_reason wsX3_cover := goodIn_r _ [10, 11, 12, 13, 5, 14, 2, 3, 4, 6, 1, 15, 16, 17, 18, 19, 20, 21, 22, 23, 24, 25, 26, 30, 31, 32, 33, 34, 35, 36, 37, 38, 39, 40, 41, 42, 43] (by decide +kernel) (by decide +kernel)
set_option maxRecDepth 20000 in
theorem gX3_reason_X3_cover : GoodIn wsX3_reason (wsV RX3 48 RX3 yX3_cover wsX3_cover) := goodIn_app (goodIn_of _ (by decide +kernel)) ggX3_reason_X3_cover
set_option maxRecDepth 20000 in
theorem ggX3_reason_X3_fee : GoodIn wsX3_reason wsX3_fee := goodIn_r _ [29] (by decide +kernel) (by decide +kernel)
set_option maxRecDepth 20000 in
theorem gX3_reason_X3_fee : GoodIn wsX3_reason (va_wsS RX3 51 yX3_fee wsX3_fee) := goodIn_app (goodIn_of _ (by decide +kernel)) ggX3_reason_X3_fee
theorem dX3_reason_0 : decode cX3_reason 0 = .ok (.aload_n 0, 1) := by decide +kernel
theorem dX3_reason_1 : decode cX3_reason 1 = .ok (.iload_n 1, 1) := by decide +kernel
theorem dX3_reason_2 : decode cX3_reason 2 = .ok (.iconst 2, 1) := by decide +kernel
theorem dX3_reason_3 : decode cX3_reason 3 = .ok (.invokevirtual 35, 3) := by decide +kernel
theorem dX3_reason_6 : decode cX3_reason 6 = .ok (.ifCond .le 5, 3) := by decide +kernel
theorem dX3_reason_9 : decode cX3_reason 9 = .ok (.iconst 1, 1) := by decide +kernel
theorem dX3_reason_10 : decode cX3_reason 10 = .ok (.ireturn, 1) := by decide +kernel
theorem dX3_reason_11 : decode cX3_reason 11 = .ok (.iload_n 2, 1) := by decide +kernel
theorem dX3_reason_12 : decode cX3_reason 12 = .ok (.iconst 3, 1) := by decide +kernel
theorem dX3_reason_13 : decode cX3_reason 13 = .ok (.aload_n 0, 1) := by decide +kernel
theorem dX3_reason_14 : decode cX3_reason 14 = .ok (.iload_n 1, 1) := by decide +kernel
theorem dX3_reason_15 : decode cX3_reason 15 = .ok (.iconst 0, 1) := by decide +kernel
theorem dX3_reason_16 : decode cX3_reason 16 = .ok (.invokevirtual 35, 3) := by decide +kernel
theorem dX3_reason_19 : decode cX3_reason 19 = .ok (.imul, 1) := by decide +kernel
theorem dX3_reason_20 : decode cX3_reason 20 = .ok (.if_icmp .le 5, 3) := by decide +kernel
theorem dX3_reason_23 : decode cX3_reason 23 = .ok (.iconst 2, 1) := by decide +kernel
theorem dX3_reason_24 : decode cX3_reason 24 = .ok (.ireturn, 1) := by decide +kernel
theorem dX3_reason_25 : decode cX3_reason 25 = .ok (.iload_n 2, 1) := by decide +kernel
theorem dX3_reason_26 : decode cX3_reason 26 = .ok (.aload_n 0, 1) := by decide +kernel
theorem dX3_reason_27 : decode cX3_reason 27 = .ok (.iload_n 1, 1) := by decide +kernel
theorem dX3_reason_28 : decode cX3_reason 28 = .ok (.invokevirtual 48, 3) := by decide +kernel
theorem dX3_reason_31 : decode cX3_reason 31 = .ok (.if_icmp .le 7, 3) := by decide +kernel
theorem dX3_reason_34 : decode cX3_reason 34 = .ok (.iconst 3, 1) := by decide +kernel
theorem dX3_reason_35 : decode cX3_reason 35 = .ok (.goto 30, 3) := by decide +kernel
theorem dX3_reason_38 : decode cX3_reason 38 = .ok (.aload_n 0, 1) := by decide +kernel
theorem dX3_reason_39 : decode cX3_reason 39 = .ok (.getfield 7, 3) := by decide +kernel
theorem dX3_reason_42 : decode cX3_reason 42 = .ok (.iconst 0, 1) := by decide +kernel
theorem dX3_reason_43 : decode cX3_reason 43 = .ok (.iaload, 1) := by decide +kernel
theorem dX3_reason_44 : decode cX3_reason 44 = .ok (.iload_n 2, 1) := by decide +kernel
theorem dX3_reason_45 : decode cX3_reason 45 = .ok (.iload_n 2, 1) := by decide +kernel
theorem dX3_reason_46 : decode cX3_reason 46 = .ok (.aload_n 0, 1) := by decide +kernel
theorem dX3_reason_47 : decode cX3_reason 47 = .ok (.getfield 7, 3) := by decide +kernel
theorem dX3_reason_50 : decode cX3_reason 50 = .ok (.bipush 8, 2) := by decide +kernel
theorem dX3_reason_52 : decode cX3_reason 52 = .ok (.iaload, 1) := by decide +kernel
theorem dX3_reason_53 : decode cX3_reason 53 = .ok (.invokestatic 51, 3) := by decide +kernel
theorem dX3_reason_56 : decode cX3_reason 56 = .ok (.isub, 1) := by decide +kernel
theorem dX3_reason_57 : decode cX3_reason 57 = .ok (.if_icmp .ge 7, 3) := by decide +kernel
theorem dX3_reason_60 : decode cX3_reason 60 = .ok (.iconst 4, 1) := by decide +kernel
theorem dX3_reason_61 : decode cX3_reason 61 = .ok (.goto 4, 3) := by decide +kernel
theorem dX3_reason_64 : decode cX3_reason 64 = .ok (.iconst 0, 1) := by decide +kernel
theorem dX3_reason_65 : decode cX3_reason 65 = .ok (.ireturn, 1) := by decide +kernel
theorem dX3_refuses_0 : decode cX3_refuses 0 = .ok (.aload_n 0, 1) := by decide +kernel
theorem dX3_refuses_1 : decode cX3_refuses 1 = .ok (.getfield 7, 3) := by decide +kernel
theorem dX3_refuses_4 : decode cX3_refuses 4 = .ok (.bipush 6, 2) := by decide +kernel
theorem dX3_refuses_6 : decode cX3_refuses 6 = .ok (.dup2, 1) := by decide +kernel
theorem dX3_refuses_7 : decode cX3_refuses 7 = .ok (.iaload, 1) := by decide +kernel
theorem dX3_refuses_8 : decode cX3_refuses 8 = .ok (.iconst 1, 1) := by decide +kernel
theorem dX3_refuses_9 : decode cX3_refuses 9 = .ok (.iadd, 1) := by decide +kernel
theorem dX3_refuses_10 : decode cX3_refuses 10 = .ok (.iastore, 1) := by decide +kernel
theorem dX3_refuses_11 : decode cX3_refuses 11 = .ok (.iload_n 1, 1) := by decide +kernel
theorem dX3_refuses_12 : decode cX3_refuses 12 = .ok (.ireturn, 1) := by decide +kernel
set_option maxRecDepth 20000 in
theorem ggX3_paysIn_X3_of : GoodIn wsX3_paysIn wsX3_of := goodIn_r _ [7, 2, 16, 17, 18, 19, 20, 21, 22, 23, 24, 25, 26, 27, 28, 29] (by decide +kernel) (by decide +kernel)
set_option maxRecDepth 20000 in
theorem gX3_paysIn_X3_of : GoodIn wsX3_paysIn (wsV RX3 35 RX3 yX3_of wsX3_of) := goodIn_app (goodIn_of _ (by decide +kernel)) ggX3_paysIn_X3_of
set_option maxRecDepth 20000 in
theorem ggX3_paysIn_X3_refuses : GoodIn wsX3_paysIn wsX3_refuses := goodIn_r _ [11, 2, 16, 17, 18, 19, 20, 21, 22, 23, 24, 25, 26, 27, 28, 29] (by decide +kernel) (by decide +kernel)
set_option maxRecDepth 20000 in
theorem gX3_paysIn_X3_refuses : GoodIn wsX3_paysIn (wsV RX3 55 RX3 yX3_refuses wsX3_refuses) := goodIn_app (goodIn_of _ (by decide +kernel)) ggX3_paysIn_X3_refuses
set_option maxRecDepth 20000 in
theorem ggX3_paysIn_X3_adds : GoodIn wsX3_paysIn wsX3_adds := goodIn_r _ [15, 2, 16, 17, 18, 19, 20, 21, 22, 23, 24, 25, 26, 27, 28, 29] (by decide +kernel) (by decide +kernel)
set_option maxRecDepth 20000 in
theorem gX3_paysIn_X3_adds : GoodIn wsX3_paysIn (wsV RX3 58 RX3 yX3_adds wsX3_adds) := goodIn_app (goodIn_of _ (by decide +kernel)) ggX3_paysIn_X3_adds
theorem dX3_paysIn_0 : decode cX3_paysIn 0 = .ok (.aload_n 0, 1) := by decide +kernel
theorem dX3_paysIn_1 : decode cX3_paysIn 1 = .ok (.iload_n 1, 1) := by decide +kernel
theorem dX3_paysIn_2 : decode cX3_paysIn 2 = .ok (.iconst 0, 1) := by decide +kernel
theorem dX3_paysIn_3 : decode cX3_paysIn 3 = .ok (.invokevirtual 35, 3) := by decide +kernel
theorem dX3_paysIn_6 : decode cX3_paysIn 6 = .ok (.iload_n 2, 1) := by decide +kernel
theorem dX3_paysIn_7 : decode cX3_paysIn 7 = .ok (.iadd, 1) := by decide +kernel
theorem dX3_paysIn_8 : decode cX3_paysIn 8 = .ok (.ldc 54, 2) := by decide +kernel
theorem dX3_paysIn_10 : decode cX3_paysIn 10 = .ok (.if_icmp .le 9, 3) := by decide +kernel
theorem dX3_paysIn_13 : decode cX3_paysIn 13 = .ok (.aload_n 0, 1) := by decide +kernel
theorem dX3_paysIn_14 : decode cX3_paysIn 14 = .ok (.iconst (-1), 1) := by decide +kernel
theorem dX3_paysIn_15 : decode cX3_paysIn 15 = .ok (.invokevirtual 55, 3) := by decide +kernel
theorem dX3_paysIn_18 : decode cX3_paysIn 18 = .ok (.ireturn, 1) := by decide +kernel
theorem dX3_paysIn_19 : decode cX3_paysIn 19 = .ok (.aload_n 0, 1) := by decide +kernel
theorem dX3_paysIn_20 : decode cX3_paysIn 20 = .ok (.iload_n 1, 1) := by decide +kernel
theorem dX3_paysIn_21 : decode cX3_paysIn 21 = .ok (.iconst 0, 1) := by decide +kernel
theorem dX3_paysIn_22 : decode cX3_paysIn 22 = .ok (.iload_n 2, 1) := by decide +kernel
theorem dX3_paysIn_23 : decode cX3_paysIn 23 = .ok (.invokevirtual 58, 3) := by decide +kernel
theorem dX3_paysIn_26 : decode cX3_paysIn 26 = .ok (.aload_n 0, 1) := by decide +kernel
theorem dX3_paysIn_27 : decode cX3_paysIn 27 = .ok (.getfield 7, 3) := by decide +kernel
theorem dX3_paysIn_30 : decode cX3_paysIn 30 = .ok (.iconst 0, 1) := by decide +kernel
theorem dX3_paysIn_31 : decode cX3_paysIn 31 = .ok (.dup2, 1) := by decide +kernel
theorem dX3_paysIn_32 : decode cX3_paysIn 32 = .ok (.iaload, 1) := by decide +kernel
theorem dX3_paysIn_33 : decode cX3_paysIn 33 = .ok (.iload_n 2, 1) := by decide +kernel
theorem dX3_paysIn_34 : decode cX3_paysIn 34 = .ok (.iadd, 1) := by decide +kernel
theorem dX3_paysIn_35 : decode cX3_paysIn 35 = .ok (.iastore, 1) := by decide +kernel
theorem dX3_paysIn_36 : decode cX3_paysIn 36 = .ok (.aload_n 0, 1) := by decide +kernel
theorem dX3_paysIn_37 : decode cX3_paysIn 37 = .ok (.iload_n 1, 1) := by decide +kernel
theorem dX3_paysIn_38 : decode cX3_paysIn 38 = .ok (.iconst 0, 1) := by decide +kernel
theorem dX3_paysIn_39 : decode cX3_paysIn 39 = .ok (.invokevirtual 35, 3) := by decide +kernel
theorem dX3_paysIn_42 : decode cX3_paysIn 42 = .ok (.ireturn, 1) := by decide +kernel
set_option maxRecDepth 20000 in
theorem ggX3_paysOut_X3_free : GoodIn wsX3_paysOut wsX3_free := goodIn_r _ [6, 7, 8, 9, 5, 10, 1, 11, 12, 13, 14, 15, 16, 17, 18, 19, 20, 21, 22, 23, 24, 25, 26, 35, 36, 37, 38, 39, 40, 41, 42, 43, 44, 45, 46, 47, 48] (by decide +kernel) (by decide +kernel)
set_option maxRecDepth 20000 in
theorem gX3_paysOut_X3_free : GoodIn wsX3_paysOut (wsV RX3 62 RX3 yX3_free wsX3_free) := goodIn_app (goodIn_of _ (by decide +kernel)) ggX3_paysOut_X3_free
set_option maxRecDepth 20000 in
theorem ggX3_paysOut_X3_refuses : GoodIn wsX3_paysOut wsX3_refuses := goodIn_r _ [30, 1, 35, 36, 37, 38, 39, 40, 41, 42, 43, 44, 45, 46, 47, 48] (by decide +kernel) (by decide +kernel)
set_option maxRecDepth 20000 in
theorem gX3_paysOut_X3_refuses : GoodIn wsX3_paysOut (wsV RX3 55 RX3 yX3_refuses wsX3_refuses) := goodIn_app (goodIn_of _ (by decide +kernel)) ggX3_paysOut_X3_refuses
set_option maxRecDepth 20000 in
theorem ggX3_paysOut_X3_adds : GoodIn wsX3_paysOut wsX3_adds := goodIn_r _ [34, 1, 35, 36, 37, 38, 39, 40, 41, 42, 43, 44, 45, 46, 47, 48] (by decide +kernel) (by decide +kernel)
set_option maxRecDepth 20000 in
theorem gX3_paysOut_X3_adds : GoodIn wsX3_paysOut (wsV RX3 58 RX3 yX3_adds wsX3_adds) := goodIn_app (goodIn_of _ (by decide +kernel)) ggX3_paysOut_X3_adds
theorem dX3_paysOut_0 : decode cX3_paysOut 0 = .ok (.iload_n 2, 1) := by decide +kernel
theorem dX3_paysOut_1 : decode cX3_paysOut 1 = .ok (.aload_n 0, 1) := by decide +kernel
theorem dX3_paysOut_2 : decode cX3_paysOut 2 = .ok (.iload_n 1, 1) := by decide +kernel
theorem dX3_paysOut_3 : decode cX3_paysOut 3 = .ok (.invokevirtual 62, 3) := by decide +kernel
theorem dX3_paysOut_6 : decode cX3_paysOut 6 = .ok (.if_icmp .le 9, 3) := by decide +kernel
theorem dX3_paysOut_9 : decode cX3_paysOut 9 = .ok (.aload_n 0, 1) := by decide +kernel
theorem dX3_paysOut_10 : decode cX3_paysOut 10 = .ok (.iconst 1, 1) := by decide +kernel
theorem dX3_paysOut_11 : decode cX3_paysOut 11 = .ok (.invokevirtual 55, 3) := by decide +kernel
theorem dX3_paysOut_14 : decode cX3_paysOut 14 = .ok (.ireturn, 1) := by decide +kernel
theorem dX3_paysOut_15 : decode cX3_paysOut 15 = .ok (.aload_n 0, 1) := by decide +kernel
theorem dX3_paysOut_16 : decode cX3_paysOut 16 = .ok (.getfield 7, 3) := by decide +kernel
theorem dX3_paysOut_19 : decode cX3_paysOut 19 = .ok (.iconst 0, 1) := by decide +kernel
theorem dX3_paysOut_20 : decode cX3_paysOut 20 = .ok (.iaload, 1) := by decide +kernel
theorem dX3_paysOut_21 : decode cX3_paysOut 21 = .ok (.iload_n 2, 1) := by decide +kernel
theorem dX3_paysOut_22 : decode cX3_paysOut 22 = .ok (.if_icmp .ge 9, 3) := by decide +kernel
theorem dX3_paysOut_25 : decode cX3_paysOut 25 = .ok (.aload_n 0, 1) := by decide +kernel
theorem dX3_paysOut_26 : decode cX3_paysOut 26 = .ok (.iconst 2, 1) := by decide +kernel
theorem dX3_paysOut_27 : decode cX3_paysOut 27 = .ok (.invokevirtual 55, 3) := by decide +kernel
theorem dX3_paysOut_30 : decode cX3_paysOut 30 = .ok (.ireturn, 1) := by decide +kernel
theorem dX3_paysOut_31 : decode cX3_paysOut 31 = .ok (.aload_n 0, 1) := by decide +kernel
theorem dX3_paysOut_32 : decode cX3_paysOut 32 = .ok (.iload_n 1, 1) := by decide +kernel
theorem dX3_paysOut_33 : decode cX3_paysOut 33 = .ok (.iconst 0, 1) := by decide +kernel
theorem dX3_paysOut_34 : decode cX3_paysOut 34 = .ok (.iload_n 2, 1) := by decide +kernel
theorem dX3_paysOut_35 : decode cX3_paysOut 35 = .ok (.ineg, 1) := by decide +kernel
theorem dX3_paysOut_36 : decode cX3_paysOut 36 = .ok (.invokevirtual 58, 3) := by decide +kernel
theorem dX3_paysOut_39 : decode cX3_paysOut 39 = .ok (.aload_n 0, 1) := by decide +kernel
theorem dX3_paysOut_40 : decode cX3_paysOut 40 = .ok (.getfield 7, 3) := by decide +kernel
theorem dX3_paysOut_43 : decode cX3_paysOut 43 = .ok (.iconst 0, 1) := by decide +kernel
theorem dX3_paysOut_44 : decode cX3_paysOut 44 = .ok (.dup2, 1) := by decide +kernel
theorem dX3_paysOut_45 : decode cX3_paysOut 45 = .ok (.iaload, 1) := by decide +kernel
theorem dX3_paysOut_46 : decode cX3_paysOut 46 = .ok (.iload_n 2, 1) := by decide +kernel
theorem dX3_paysOut_47 : decode cX3_paysOut 47 = .ok (.isub, 1) := by decide +kernel
theorem dX3_paysOut_48 : decode cX3_paysOut 48 = .ok (.iastore, 1) := by decide +kernel
theorem dX3_paysOut_49 : decode cX3_paysOut 49 = .ok (.iconst 0, 1) := by decide +kernel
theorem dX3_paysOut_50 : decode cX3_paysOut 50 = .ok (.ireturn, 1) := by decide +kernel
set_option maxRecDepth 20000 in
theorem ggX3_pledges_X3_free : GoodIn wsX3_pledges wsX3_free := goodIn_r _ [6, 7, 8, 9, 5, 10, 1, 11, 12, 13, 14, 15, 16, 17, 18, 19, 20, 21, 22, 23, 24, 25, 26, 31, 32, 33, 34, 35, 36, 37, 38, 39, 40, 41, 42, 43, 44] (by decide +kernel) (by decide +kernel)
set_option maxRecDepth 20000 in
theorem gX3_pledges_X3_free : GoodIn wsX3_pledges (wsV RX3 62 RX3 yX3_free wsX3_free) := goodIn_app (goodIn_of _ (by decide +kernel)) ggX3_pledges_X3_free
set_option maxRecDepth 20000 in
theorem ggX3_pledges_X3_refuses : GoodIn wsX3_pledges wsX3_refuses := goodIn_r _ [30, 1, 31, 32, 33, 34, 35, 36, 37, 38, 39, 40, 41, 42, 43, 44] (by decide +kernel) (by decide +kernel)
set_option maxRecDepth 20000 in
theorem gX3_pledges_X3_refuses : GoodIn wsX3_pledges (wsV RX3 55 RX3 yX3_refuses wsX3_refuses) := goodIn_app (goodIn_of _ (by decide +kernel)) ggX3_pledges_X3_refuses
set_option maxRecDepth 20000 in
theorem ggX3_pledges_X3_pledgeOf : GoodIn wsX3_pledges wsX3_pledgeOf := goodIn_r _ [18, 1, 31, 32, 33, 34, 35, 36, 37, 38, 39, 40, 41, 42, 43, 44] (by decide +kernel) (by decide +kernel)
set_option maxRecDepth 20000 in
theorem gX3_pledges_X3_pledgeOf : GoodIn wsX3_pledges (wsV RX3 31 RX3 yX3_pledgeOf wsX3_pledgeOf) := goodIn_app (goodIn_of _ (by decide +kernel)) ggX3_pledges_X3_pledgeOf
theorem dX3_pledges_0 : decode cX3_pledges 0 = .ok (.iload_n 3, 1) := by decide +kernel
theorem dX3_pledges_1 : decode cX3_pledges 1 = .ok (.aload_n 0, 1) := by decide +kernel
theorem dX3_pledges_2 : decode cX3_pledges 2 = .ok (.iload_n 1, 1) := by decide +kernel
theorem dX3_pledges_3 : decode cX3_pledges 3 = .ok (.invokevirtual 62, 3) := by decide +kernel
theorem dX3_pledges_6 : decode cX3_pledges 6 = .ok (.if_icmp .le 9, 3) := by decide +kernel
theorem dX3_pledges_9 : decode cX3_pledges 9 = .ok (.aload_n 0, 1) := by decide +kernel
theorem dX3_pledges_10 : decode cX3_pledges 10 = .ok (.iconst (-1), 1) := by decide +kernel
theorem dX3_pledges_11 : decode cX3_pledges 11 = .ok (.invokevirtual 55, 3) := by decide +kernel
theorem dX3_pledges_14 : decode cX3_pledges 14 = .ok (.ireturn, 1) := by decide +kernel
theorem dX3_pledges_15 : decode cX3_pledges 15 = .ok (.aload_n 0, 1) := by decide +kernel
theorem dX3_pledges_16 : decode cX3_pledges 16 = .ok (.getfield 7, 3) := by decide +kernel
theorem dX3_pledges_19 : decode cX3_pledges 19 = .ok (.bipush 46, 2) := by decide +kernel
theorem dX3_pledges_21 : decode cX3_pledges 21 = .ok (.bipush 6, 2) := by decide +kernel
theorem dX3_pledges_23 : decode cX3_pledges 23 = .ok (.iload_n 1, 1) := by decide +kernel
theorem dX3_pledges_24 : decode cX3_pledges 24 = .ok (.imul, 1) := by decide +kernel
theorem dX3_pledges_25 : decode cX3_pledges 25 = .ok (.iadd, 1) := by decide +kernel
theorem dX3_pledges_26 : decode cX3_pledges 26 = .ok (.iload_n 2, 1) := by decide +kernel
theorem dX3_pledges_27 : decode cX3_pledges 27 = .ok (.iadd, 1) := by decide +kernel
theorem dX3_pledges_28 : decode cX3_pledges 28 = .ok (.dup2, 1) := by decide +kernel
theorem dX3_pledges_29 : decode cX3_pledges 29 = .ok (.iaload, 1) := by decide +kernel
theorem dX3_pledges_30 : decode cX3_pledges 30 = .ok (.iload_n 3, 1) := by decide +kernel
theorem dX3_pledges_31 : decode cX3_pledges 31 = .ok (.iadd, 1) := by decide +kernel
theorem dX3_pledges_32 : decode cX3_pledges 32 = .ok (.iastore, 1) := by decide +kernel
theorem dX3_pledges_33 : decode cX3_pledges 33 = .ok (.aload_n 0, 1) := by decide +kernel
theorem dX3_pledges_34 : decode cX3_pledges 34 = .ok (.iload_n 1, 1) := by decide +kernel
theorem dX3_pledges_35 : decode cX3_pledges 35 = .ok (.iload_n 2, 1) := by decide +kernel
theorem dX3_pledges_36 : decode cX3_pledges 36 = .ok (.invokevirtual 31, 3) := by decide +kernel
theorem dX3_pledges_39 : decode cX3_pledges 39 = .ok (.ireturn, 1) := by decide +kernel
set_option maxRecDepth 20000 in
theorem ggX3_takesBack_X3_pledgeOf : GoodIn wsX3_takesBack wsX3_pledgeOf := goodIn_r _ [6, 1, 31, 32, 33, 34, 35, 36, 37, 38, 39, 40, 41, 42, 43, 44] (by decide +kernel) (by decide +kernel)
set_option maxRecDepth 20000 in
theorem gX3_takesBack_X3_pledgeOf : GoodIn wsX3_takesBack (wsV RX3 31 RX3 yX3_pledgeOf wsX3_pledgeOf) := goodIn_app (goodIn_of _ (by decide +kernel)) ggX3_takesBack_X3_pledgeOf
set_option maxRecDepth 20000 in
theorem ggX3_takesBack_X3_refuses : GoodIn wsX3_takesBack wsX3_refuses := goodIn_r _ [10, 1, 31, 32, 33, 34, 35, 36, 37, 38, 39, 40, 41, 42, 43, 44] (by decide +kernel) (by decide +kernel)
set_option maxRecDepth 20000 in
theorem gX3_takesBack_X3_refuses : GoodIn wsX3_takesBack (wsV RX3 55 RX3 yX3_refuses wsX3_refuses) := goodIn_app (goodIn_of _ (by decide +kernel)) ggX3_takesBack_X3_refuses
set_option maxRecDepth 20000 in
theorem ggX3_takesBack_X3_cover : GoodIn wsX3_takesBack wsX3_cover := goodIn_r _ [14, 15, 16, 17, 5, 18, 19, 20, 21, 22, 1, 23, 24, 25, 26, 2, 3, 4, 6, 27, 28, 29, 30, 31, 32, 33, 34, 35, 36, 37, 38, 39, 40, 41, 42, 43, 44] (by decide +kernel) (by decide +kernel)
set_option maxRecDepth 20000 in
theorem gX3_takesBack_X3_cover : GoodIn wsX3_takesBack (wsV RX3 48 RX3 yX3_cover wsX3_cover) := goodIn_app (goodIn_of _ (by decide +kernel)) ggX3_takesBack_X3_cover
set_option maxRecDepth 20000 in
theorem ggX3_takesBack_X3_of : GoodIn wsX3_takesBack wsX3_of := goodIn_r _ [22, 1, 31, 32, 33, 34, 35, 36, 37, 38, 39, 40, 41, 42, 43, 44] (by decide +kernel) (by decide +kernel)
set_option maxRecDepth 20000 in
theorem gX3_takesBack_X3_of : GoodIn wsX3_takesBack (wsV RX3 35 RX3 yX3_of wsX3_of) := goodIn_app (goodIn_of _ (by decide +kernel)) ggX3_takesBack_X3_of
theorem dX3_takesBack_0 : decode cX3_takesBack 0 = .ok (.iload_n 3, 1) := by decide +kernel
theorem dX3_takesBack_1 : decode cX3_takesBack 1 = .ok (.aload_n 0, 1) := by decide +kernel
theorem dX3_takesBack_2 : decode cX3_takesBack 2 = .ok (.iload_n 1, 1) := by decide +kernel
theorem dX3_takesBack_3 : decode cX3_takesBack 3 = .ok (.iload_n 2, 1) := by decide +kernel
theorem dX3_takesBack_4 : decode cX3_takesBack 4 = .ok (.invokevirtual 31, 3) := by decide +kernel
theorem dX3_takesBack_7 : decode cX3_takesBack 7 = .ok (.if_icmp .le 9, 3) := by decide +kernel
theorem dX3_takesBack_10 : decode cX3_takesBack 10 = .ok (.aload_n 0, 1) := by decide +kernel
theorem dX3_takesBack_11 : decode cX3_takesBack 11 = .ok (.iconst 1, 1) := by decide +kernel
theorem dX3_takesBack_12 : decode cX3_takesBack 12 = .ok (.invokevirtual 55, 3) := by decide +kernel
theorem dX3_takesBack_15 : decode cX3_takesBack 15 = .ok (.ireturn, 1) := by decide +kernel
theorem dX3_takesBack_16 : decode cX3_takesBack 16 = .ok (.aload_n 0, 1) := by decide +kernel
theorem dX3_takesBack_17 : decode cX3_takesBack 17 = .ok (.iload_n 2, 1) := by decide +kernel
theorem dX3_takesBack_18 : decode cX3_takesBack 18 = .ok (.invokevirtual 48, 3) := by decide +kernel
theorem dX3_takesBack_21 : decode cX3_takesBack 21 = .ok (.iload_n 3, 1) := by decide +kernel
theorem dX3_takesBack_22 : decode cX3_takesBack 22 = .ok (.isub, 1) := by decide +kernel
theorem dX3_takesBack_23 : decode cX3_takesBack 23 = .ok (.aload_n 0, 1) := by decide +kernel
theorem dX3_takesBack_24 : decode cX3_takesBack 24 = .ok (.iload_n 2, 1) := by decide +kernel
theorem dX3_takesBack_25 : decode cX3_takesBack 25 = .ok (.iconst 2, 1) := by decide +kernel
theorem dX3_takesBack_26 : decode cX3_takesBack 26 = .ok (.invokevirtual 35, 3) := by decide +kernel
theorem dX3_takesBack_29 : decode cX3_takesBack 29 = .ok (.if_icmp .ge 9, 3) := by decide +kernel
theorem dX3_takesBack_32 : decode cX3_takesBack 32 = .ok (.aload_n 0, 1) := by decide +kernel
theorem dX3_takesBack_33 : decode cX3_takesBack 33 = .ok (.iconst 2, 1) := by decide +kernel
theorem dX3_takesBack_34 : decode cX3_takesBack 34 = .ok (.invokevirtual 55, 3) := by decide +kernel
theorem dX3_takesBack_37 : decode cX3_takesBack 37 = .ok (.ireturn, 1) := by decide +kernel
theorem dX3_takesBack_38 : decode cX3_takesBack 38 = .ok (.aload_n 0, 1) := by decide +kernel
theorem dX3_takesBack_39 : decode cX3_takesBack 39 = .ok (.getfield 7, 3) := by decide +kernel
theorem dX3_takesBack_42 : decode cX3_takesBack 42 = .ok (.bipush 46, 2) := by decide +kernel
theorem dX3_takesBack_44 : decode cX3_takesBack 44 = .ok (.bipush 6, 2) := by decide +kernel
theorem dX3_takesBack_46 : decode cX3_takesBack 46 = .ok (.iload_n 1, 1) := by decide +kernel
theorem dX3_takesBack_47 : decode cX3_takesBack 47 = .ok (.imul, 1) := by decide +kernel
theorem dX3_takesBack_48 : decode cX3_takesBack 48 = .ok (.iadd, 1) := by decide +kernel
theorem dX3_takesBack_49 : decode cX3_takesBack 49 = .ok (.iload_n 2, 1) := by decide +kernel
theorem dX3_takesBack_50 : decode cX3_takesBack 50 = .ok (.iadd, 1) := by decide +kernel
theorem dX3_takesBack_51 : decode cX3_takesBack 51 = .ok (.dup2, 1) := by decide +kernel
theorem dX3_takesBack_52 : decode cX3_takesBack 52 = .ok (.iaload, 1) := by decide +kernel
theorem dX3_takesBack_53 : decode cX3_takesBack 53 = .ok (.iload_n 3, 1) := by decide +kernel
theorem dX3_takesBack_54 : decode cX3_takesBack 54 = .ok (.isub, 1) := by decide +kernel
theorem dX3_takesBack_55 : decode cX3_takesBack 55 = .ok (.iastore, 1) := by decide +kernel
theorem dX3_takesBack_56 : decode cX3_takesBack 56 = .ok (.iconst 0, 1) := by decide +kernel
theorem dX3_takesBack_57 : decode cX3_takesBack 57 = .ok (.ireturn, 1) := by decide +kernel
set_option maxRecDepth 20000 in
theorem ggX3_lends_X3_reason : GoodIn wsX3_lends wsX3_reason := goodIn_r _ [6, 1, 7, 8, 9, 5, 10, 11, 12, 13, 14, 15, 16, 17, 18, 19, 20, 21, 22, 23, 24, 25, 26, 27, 28, 29, 30, 31, 32, 33, 42, 43, 44, 45, 46, 47, 48, 49, 50, 51, 52, 53, 54, 55] (by decide +kernel) (by decide +kernel)
set_option maxRecDepth 20000 in
theorem gX3_lends_X3_reason : GoodIn wsX3_lends (wsV RX3 65 RX3 yX3_reason wsX3_reason) := goodIn_app (goodIn_of _ (by decide +kernel)) ggX3_lends_X3_reason
set_option maxRecDepth 20000 in
theorem ggX3_lends_X3_refuses : GoodIn wsX3_lends wsX3_refuses := goodIn_r _ [37, 1, 42, 43, 44, 45, 46, 47, 48, 49, 50, 51, 52, 53, 54, 55] (by decide +kernel) (by decide +kernel)
set_option maxRecDepth 20000 in
theorem gX3_lends_X3_refuses : GoodIn wsX3_lends (wsV RX3 55 RX3 yX3_refuses wsX3_refuses) := goodIn_app (goodIn_of _ (by decide +kernel)) ggX3_lends_X3_refuses
set_option maxRecDepth 20000 in
theorem ggX3_lends_X3_fee : GoodIn wsX3_lends wsX3_fee := goodIn_r _ [33] (by decide +kernel) (by decide +kernel)
set_option maxRecDepth 20000 in
theorem gX3_lends_X3_fee : GoodIn wsX3_lends (va_wsS RX3 51 yX3_fee wsX3_fee) := goodIn_app (goodIn_of _ (by decide +kernel)) ggX3_lends_X3_fee
set_option maxRecDepth 20000 in
theorem ggX3_lends_X3_adds : GoodIn wsX3_lends wsX3_adds := goodIn_r _ [41, 1, 42, 43, 44, 45, 46, 47, 48, 49, 50, 51, 52, 53, 54, 55] (by decide +kernel) (by decide +kernel)
set_option maxRecDepth 20000 in
theorem gX3_lends_X3_adds : GoodIn wsX3_lends (wsV RX3 58 RX3 yX3_adds wsX3_adds) := goodIn_app (goodIn_of _ (by decide +kernel)) ggX3_lends_X3_adds
set_option maxRecDepth 20000 in
theorem ggX3_lends_X3_of : GoodIn wsX3_lends wsX3_of := goodIn_r _ [10, 1, 42, 43, 44, 45, 46, 47, 48, 49, 50, 51, 52, 53, 54, 55] (by decide +kernel) (by decide +kernel)
set_option maxRecDepth 20000 in
theorem gX3_lends_X3_of : GoodIn wsX3_lends (wsV RX3 35 RX3 yX3_of wsX3_of) := goodIn_app (goodIn_of _ (by decide +kernel)) ggX3_lends_X3_of
theorem dX3_lends_0 : decode cX3_lends 0 = .ok (.aload_n 0, 1) := by decide +kernel
theorem dX3_lends_1 : decode cX3_lends 1 = .ok (.iload_n 1, 1) := by decide +kernel
theorem dX3_lends_2 : decode cX3_lends 2 = .ok (.iload_n 2, 1) := by decide +kernel
theorem dX3_lends_3 : decode cX3_lends 3 = .ok (.invokevirtual 65, 3) := by decide +kernel
theorem dX3_lends_6 : decode cX3_lends 6 = .ok (.istore 4, 2) := by decide +kernel
theorem dX3_lends_8 : decode cX3_lends 8 = .ok (.iload 4, 2) := by decide +kernel
theorem dX3_lends_10 : decode cX3_lends 10 = .ok (.ifCond .le 10, 3) := by decide +kernel
theorem dX3_lends_13 : decode cX3_lends 13 = .ok (.aload_n 0, 1) := by decide +kernel
theorem dX3_lends_14 : decode cX3_lends 14 = .ok (.iload 4, 2) := by decide +kernel
theorem dX3_lends_16 : decode cX3_lends 16 = .ok (.invokevirtual 55, 3) := by decide +kernel
theorem dX3_lends_19 : decode cX3_lends 19 = .ok (.ireturn, 1) := by decide +kernel
theorem dX3_lends_20 : decode cX3_lends 20 = .ok (.iload_n 2, 1) := by decide +kernel
theorem dX3_lends_21 : decode cX3_lends 21 = .ok (.aload_n 0, 1) := by decide +kernel
theorem dX3_lends_22 : decode cX3_lends 22 = .ok (.getfield 7, 3) := by decide +kernel
theorem dX3_lends_25 : decode cX3_lends 25 = .ok (.bipush 8, 2) := by decide +kernel
theorem dX3_lends_27 : decode cX3_lends 27 = .ok (.iaload, 1) := by decide +kernel
theorem dX3_lends_28 : decode cX3_lends 28 = .ok (.invokestatic 51, 3) := by decide +kernel
theorem dX3_lends_31 : decode cX3_lends 31 = .ok (.istore 5, 2) := by decide +kernel
theorem dX3_lends_33 : decode cX3_lends 33 = .ok (.aload_n 0, 1) := by decide +kernel
theorem dX3_lends_34 : decode cX3_lends 34 = .ok (.getfield 7, 3) := by decide +kernel
theorem dX3_lends_37 : decode cX3_lends 37 = .ok (.iconst 0, 1) := by decide +kernel
theorem dX3_lends_38 : decode cX3_lends 38 = .ok (.dup2, 1) := by decide +kernel
theorem dX3_lends_39 : decode cX3_lends 39 = .ok (.iaload, 1) := by decide +kernel
theorem dX3_lends_40 : decode cX3_lends 40 = .ok (.iload_n 2, 1) := by decide +kernel
theorem dX3_lends_41 : decode cX3_lends 41 = .ok (.iload 5, 2) := by decide +kernel
theorem dX3_lends_43 : decode cX3_lends 43 = .ok (.isub, 1) := by decide +kernel
theorem dX3_lends_44 : decode cX3_lends 44 = .ok (.isub, 1) := by decide +kernel
theorem dX3_lends_45 : decode cX3_lends 45 = .ok (.iastore, 1) := by decide +kernel
theorem dX3_lends_46 : decode cX3_lends 46 = .ok (.aload_n 0, 1) := by decide +kernel
theorem dX3_lends_47 : decode cX3_lends 47 = .ok (.getfield 7, 3) := by decide +kernel
theorem dX3_lends_50 : decode cX3_lends 50 = .ok (.iconst 1, 1) := by decide +kernel
theorem dX3_lends_51 : decode cX3_lends 51 = .ok (.dup2, 1) := by decide +kernel
theorem dX3_lends_52 : decode cX3_lends 52 = .ok (.iaload, 1) := by decide +kernel
theorem dX3_lends_53 : decode cX3_lends 53 = .ok (.iload 5, 2) := by decide +kernel
theorem dX3_lends_55 : decode cX3_lends 55 = .ok (.iadd, 1) := by decide +kernel
theorem dX3_lends_56 : decode cX3_lends 56 = .ok (.iastore, 1) := by decide +kernel
theorem dX3_lends_57 : decode cX3_lends 57 = .ok (.aload_n 0, 1) := by decide +kernel
theorem dX3_lends_58 : decode cX3_lends 58 = .ok (.getfield 7, 3) := by decide +kernel
theorem dX3_lends_61 : decode cX3_lends 61 = .ok (.iconst 2, 1) := by decide +kernel
theorem dX3_lends_62 : decode cX3_lends 62 = .ok (.dup2, 1) := by decide +kernel
theorem dX3_lends_63 : decode cX3_lends 63 = .ok (.iaload, 1) := by decide +kernel
theorem dX3_lends_64 : decode cX3_lends 64 = .ok (.iconst 1, 1) := by decide +kernel
theorem dX3_lends_65 : decode cX3_lends 65 = .ok (.iadd, 1) := by decide +kernel
theorem dX3_lends_66 : decode cX3_lends 66 = .ok (.iastore, 1) := by decide +kernel
theorem dX3_lends_67 : decode cX3_lends 67 = .ok (.aload_n 0, 1) := by decide +kernel
theorem dX3_lends_68 : decode cX3_lends 68 = .ok (.iload_n 1, 1) := by decide +kernel
theorem dX3_lends_69 : decode cX3_lends 69 = .ok (.iconst 2, 1) := by decide +kernel
theorem dX3_lends_70 : decode cX3_lends 70 = .ok (.iload_n 2, 1) := by decide +kernel
theorem dX3_lends_71 : decode cX3_lends 71 = .ok (.invokevirtual 58, 3) := by decide +kernel
theorem dX3_lends_74 : decode cX3_lends 74 = .ok (.aload_n 0, 1) := by decide +kernel
theorem dX3_lends_75 : decode cX3_lends 75 = .ok (.iload_n 1, 1) := by decide +kernel
theorem dX3_lends_76 : decode cX3_lends 76 = .ok (.iconst 3, 1) := by decide +kernel
theorem dX3_lends_77 : decode cX3_lends 77 = .ok (.iload_n 2, 1) := by decide +kernel
theorem dX3_lends_78 : decode cX3_lends 78 = .ok (.iload_n 3, 1) := by decide +kernel
theorem dX3_lends_79 : decode cX3_lends 79 = .ok (.iadd, 1) := by decide +kernel
theorem dX3_lends_80 : decode cX3_lends 80 = .ok (.iconst 1, 1) := by decide +kernel
theorem dX3_lends_81 : decode cX3_lends 81 = .ok (.isub, 1) := by decide +kernel
theorem dX3_lends_82 : decode cX3_lends 82 = .ok (.iload_n 3, 1) := by decide +kernel
theorem dX3_lends_83 : decode cX3_lends 83 = .ok (.idiv, 1) := by decide +kernel
theorem dX3_lends_84 : decode cX3_lends 84 = .ok (.aload_n 0, 1) := by decide +kernel
theorem dX3_lends_85 : decode cX3_lends 85 = .ok (.iload_n 1, 1) := by decide +kernel
theorem dX3_lends_86 : decode cX3_lends 86 = .ok (.iconst 3, 1) := by decide +kernel
theorem dX3_lends_87 : decode cX3_lends 87 = .ok (.invokevirtual 35, 3) := by decide +kernel
theorem dX3_lends_90 : decode cX3_lends 90 = .ok (.isub, 1) := by decide +kernel
theorem dX3_lends_91 : decode cX3_lends 91 = .ok (.invokevirtual 58, 3) := by decide +kernel
theorem dX3_lends_94 : decode cX3_lends 94 = .ok (.aload_n 0, 1) := by decide +kernel
theorem dX3_lends_95 : decode cX3_lends 95 = .ok (.iload_n 1, 1) := by decide +kernel
theorem dX3_lends_96 : decode cX3_lends 96 = .ok (.iconst 4, 1) := by decide +kernel
theorem dX3_lends_97 : decode cX3_lends 97 = .ok (.aload_n 0, 1) := by decide +kernel
theorem dX3_lends_98 : decode cX3_lends 98 = .ok (.iload_n 1, 1) := by decide +kernel
theorem dX3_lends_99 : decode cX3_lends 99 = .ok (.iconst 4, 1) := by decide +kernel
theorem dX3_lends_100 : decode cX3_lends 100 = .ok (.invokevirtual 35, 3) := by decide +kernel
theorem dX3_lends_103 : decode cX3_lends 103 = .ok (.ineg, 1) := by decide +kernel
theorem dX3_lends_104 : decode cX3_lends 104 = .ok (.invokevirtual 58, 3) := by decide +kernel
theorem dX3_lends_107 : decode cX3_lends 107 = .ok (.aload_n 0, 1) := by decide +kernel
theorem dX3_lends_108 : decode cX3_lends 108 = .ok (.iload_n 1, 1) := by decide +kernel
theorem dX3_lends_109 : decode cX3_lends 109 = .ok (.iconst 5, 1) := by decide +kernel
theorem dX3_lends_110 : decode cX3_lends 110 = .ok (.aload_n 0, 1) := by decide +kernel
theorem dX3_lends_111 : decode cX3_lends 111 = .ok (.iload_n 1, 1) := by decide +kernel
theorem dX3_lends_112 : decode cX3_lends 112 = .ok (.iconst 5, 1) := by decide +kernel
theorem dX3_lends_113 : decode cX3_lends 113 = .ok (.invokevirtual 35, 3) := by decide +kernel
theorem dX3_lends_116 : decode cX3_lends 116 = .ok (.ineg, 1) := by decide +kernel
theorem dX3_lends_117 : decode cX3_lends 117 = .ok (.invokevirtual 58, 3) := by decide +kernel
theorem dX3_lends_120 : decode cX3_lends 120 = .ok (.iconst 0, 1) := by decide +kernel
theorem dX3_lends_121 : decode cX3_lends 121 = .ok (.ireturn, 1) := by decide +kernel
set_option maxRecDepth 20000 in
theorem ggX3_repays_X3_of : GoodIn wsX3_repays wsX3_of := goodIn_r _ [6, 1, 15, 16, 17, 18, 19, 20, 21, 22, 23, 24, 25, 26, 27, 28] (by decide +kernel) (by decide +kernel)
set_option maxRecDepth 20000 in
theorem gX3_repays_X3_of : GoodIn wsX3_repays (wsV RX3 35 RX3 yX3_of wsX3_of) := goodIn_app (goodIn_of _ (by decide +kernel)) ggX3_repays_X3_of
set_option maxRecDepth 20000 in
theorem ggX3_repays_X3_refuses : GoodIn wsX3_repays wsX3_refuses := goodIn_r _ [10, 1, 15, 16, 17, 18, 19, 20, 21, 22, 23, 24, 25, 26, 27, 28] (by decide +kernel) (by decide +kernel)
set_option maxRecDepth 20000 in
theorem gX3_repays_X3_refuses : GoodIn wsX3_repays (wsV RX3 55 RX3 yX3_refuses wsX3_refuses) := goodIn_app (goodIn_of _ (by decide +kernel)) ggX3_repays_X3_refuses
set_option maxRecDepth 20000 in
theorem ggX3_repays_X3_adds : GoodIn wsX3_repays wsX3_adds := goodIn_r _ [14, 1, 15, 16, 17, 18, 19, 20, 21, 22, 23, 24, 25, 26, 27, 28] (by decide +kernel) (by decide +kernel)
set_option maxRecDepth 20000 in
theorem gX3_repays_X3_adds : GoodIn wsX3_repays (wsV RX3 58 RX3 yX3_adds wsX3_adds) := goodIn_app (goodIn_of _ (by decide +kernel)) ggX3_repays_X3_adds
theorem dX3_repays_0 : decode cX3_repays 0 = .ok (.aload_n 0, 1) := by decide +kernel
theorem dX3_repays_1 : decode cX3_repays 1 = .ok (.iload_n 1, 1) := by decide +kernel
theorem dX3_repays_2 : decode cX3_repays 2 = .ok (.iconst 2, 1) := by decide +kernel
theorem dX3_repays_3 : decode cX3_repays 3 = .ok (.invokevirtual 35, 3) := by decide +kernel
theorem dX3_repays_6 : decode cX3_repays 6 = .ok (.iload_n 2, 1) := by decide +kernel
theorem dX3_repays_7 : decode cX3_repays 7 = .ok (.if_icmp .ge 9, 3) := by decide +kernel
theorem dX3_repays_10 : decode cX3_repays 10 = .ok (.aload_n 0, 1) := by decide +kernel
theorem dX3_repays_11 : decode cX3_repays 11 = .ok (.iconst (-1), 1) := by decide +kernel
theorem dX3_repays_12 : decode cX3_repays 12 = .ok (.invokevirtual 55, 3) := by decide +kernel
theorem dX3_repays_15 : decode cX3_repays 15 = .ok (.ireturn, 1) := by decide +kernel
theorem dX3_repays_16 : decode cX3_repays 16 = .ok (.aload_n 0, 1) := by decide +kernel
theorem dX3_repays_17 : decode cX3_repays 17 = .ok (.iload_n 1, 1) := by decide +kernel
theorem dX3_repays_18 : decode cX3_repays 18 = .ok (.iconst 2, 1) := by decide +kernel
theorem dX3_repays_19 : decode cX3_repays 19 = .ok (.iload_n 2, 1) := by decide +kernel
theorem dX3_repays_20 : decode cX3_repays 20 = .ok (.ineg, 1) := by decide +kernel
theorem dX3_repays_21 : decode cX3_repays 21 = .ok (.invokevirtual 58, 3) := by decide +kernel
theorem dX3_repays_24 : decode cX3_repays 24 = .ok (.aload_n 0, 1) := by decide +kernel
theorem dX3_repays_25 : decode cX3_repays 25 = .ok (.iload_n 1, 1) := by decide +kernel
theorem dX3_repays_26 : decode cX3_repays 26 = .ok (.iconst 4, 1) := by decide +kernel
theorem dX3_repays_27 : decode cX3_repays 27 = .ok (.iload_n 2, 1) := by decide +kernel
theorem dX3_repays_28 : decode cX3_repays 28 = .ok (.invokevirtual 58, 3) := by decide +kernel
theorem dX3_repays_31 : decode cX3_repays 31 = .ok (.aload_n 0, 1) := by decide +kernel
theorem dX3_repays_32 : decode cX3_repays 32 = .ok (.getfield 7, 3) := by decide +kernel
theorem dX3_repays_35 : decode cX3_repays 35 = .ok (.iconst 0, 1) := by decide +kernel
theorem dX3_repays_36 : decode cX3_repays 36 = .ok (.dup2, 1) := by decide +kernel
theorem dX3_repays_37 : decode cX3_repays 37 = .ok (.iaload, 1) := by decide +kernel
theorem dX3_repays_38 : decode cX3_repays 38 = .ok (.iload_n 2, 1) := by decide +kernel
theorem dX3_repays_39 : decode cX3_repays 39 = .ok (.iadd, 1) := by decide +kernel
theorem dX3_repays_40 : decode cX3_repays 40 = .ok (.iastore, 1) := by decide +kernel
theorem dX3_repays_41 : decode cX3_repays 41 = .ok (.aload_n 0, 1) := by decide +kernel
theorem dX3_repays_42 : decode cX3_repays 42 = .ok (.iload_n 1, 1) := by decide +kernel
theorem dX3_repays_43 : decode cX3_repays 43 = .ok (.iconst 2, 1) := by decide +kernel
theorem dX3_repays_44 : decode cX3_repays 44 = .ok (.invokevirtual 35, 3) := by decide +kernel
theorem dX3_repays_47 : decode cX3_repays 47 = .ok (.ireturn, 1) := by decide +kernel
set_option maxRecDepth 20000 in
theorem ggX3_takes_X3_of : GoodIn wsX3_takes wsX3_of := goodIn_r _ [5, 6, 11, 12, 13, 14, 15, 16, 17, 18, 19, 20, 21, 22, 23, 24] (by decide +kernel) (by decide +kernel)
set_option maxRecDepth 20000 in
theorem gX3_takes_X3_of : GoodIn wsX3_takes (wsV RX3 35 RX3 yX3_of wsX3_of) := goodIn_app (goodIn_of _ (by decide +kernel)) ggX3_takes_X3_of
set_option maxRecDepth 20000 in
theorem ggX3_takes_X3_adds : GoodIn wsX3_takes wsX3_adds := goodIn_r _ [10, 6, 11, 12, 13, 14, 15, 16, 17, 18, 19, 20, 21, 22, 23, 24] (by decide +kernel) (by decide +kernel)
set_option maxRecDepth 20000 in
theorem gX3_takes_X3_adds : GoodIn wsX3_takes (wsV RX3 58 RX3 yX3_adds wsX3_adds) := goodIn_app (goodIn_of _ (by decide +kernel)) ggX3_takes_X3_adds
theorem dX3_takes_0 : decode cX3_takes 0 = .ok (.aload_n 0, 1) := by decide +kernel
theorem dX3_takes_1 : decode cX3_takes 1 = .ok (.iload_n 1, 1) := by decide +kernel
theorem dX3_takes_2 : decode cX3_takes 2 = .ok (.iconst 2, 1) := by decide +kernel
theorem dX3_takes_3 : decode cX3_takes 3 = .ok (.invokevirtual 35, 3) := by decide +kernel
theorem dX3_takes_6 : decode cX3_takes 6 = .ok (.iload_n 3, 1) := by decide +kernel
theorem dX3_takes_7 : decode cX3_takes 7 = .ok (.if_icmp .ge 12, 3) := by decide +kernel
theorem dX3_takes_10 : decode cX3_takes 10 = .ok (.aload_n 0, 1) := by decide +kernel
theorem dX3_takes_11 : decode cX3_takes 11 = .ok (.iload_n 1, 1) := by decide +kernel
theorem dX3_takes_12 : decode cX3_takes 12 = .ok (.iconst 2, 1) := by decide +kernel
theorem dX3_takes_13 : decode cX3_takes 13 = .ok (.invokevirtual 35, 3) := by decide +kernel
theorem dX3_takes_16 : decode cX3_takes 16 = .ok (.goto 4, 3) := by decide +kernel
theorem dX3_takes_19 : decode cX3_takes 19 = .ok (.iload_n 3, 1) := by decide +kernel
theorem dX3_takes_20 : decode cX3_takes 20 = .ok (.istore 4, 2) := by decide +kernel
theorem dX3_takes_22 : decode cX3_takes 22 = .ok (.aload_n 0, 1) := by decide +kernel
theorem dX3_takes_23 : decode cX3_takes 23 = .ok (.iload_n 2, 1) := by decide +kernel
theorem dX3_takes_24 : decode cX3_takes 24 = .ok (.iconst 0, 1) := by decide +kernel
theorem dX3_takes_25 : decode cX3_takes 25 = .ok (.iload 4, 2) := by decide +kernel
theorem dX3_takes_27 : decode cX3_takes 27 = .ok (.ineg, 1) := by decide +kernel
theorem dX3_takes_28 : decode cX3_takes 28 = .ok (.invokevirtual 58, 3) := by decide +kernel
theorem dX3_takes_31 : decode cX3_takes 31 = .ok (.aload_n 0, 1) := by decide +kernel
theorem dX3_takes_32 : decode cX3_takes 32 = .ok (.iload_n 1, 1) := by decide +kernel
theorem dX3_takes_33 : decode cX3_takes 33 = .ok (.iconst 2, 1) := by decide +kernel
theorem dX3_takes_34 : decode cX3_takes 34 = .ok (.iload 4, 2) := by decide +kernel
theorem dX3_takes_36 : decode cX3_takes 36 = .ok (.ineg, 1) := by decide +kernel
theorem dX3_takes_37 : decode cX3_takes 37 = .ok (.invokevirtual 58, 3) := by decide +kernel
theorem dX3_takes_40 : decode cX3_takes 40 = .ok (.iload 4, 2) := by decide +kernel
theorem dX3_takes_42 : decode cX3_takes 42 = .ok (.ireturn, 1) := by decide +kernel
set_option maxRecDepth 20000 in
theorem ggX3_fallsDue_X3_own : GoodIn wsX3_fallsDue wsX3_own := goodIn_r _ [6, 7, 8, 9, 5, 10, 1, 11, 12, 13, 14, 15, 16, 17, 18, 27, 28, 29, 30, 31, 32, 33, 34, 35, 36, 37, 38, 39, 40] (by decide +kernel) (by decide +kernel)
set_option maxRecDepth 20000 in
theorem gX3_fallsDue_X3_own : GoodIn wsX3_fallsDue (wsV RX3 42 RX3 yX3_own wsX3_own) := goodIn_app (goodIn_of _ (by decide +kernel)) ggX3_fallsDue_X3_own
set_option maxRecDepth 20000 in
theorem ggX3_fallsDue_X3_takes : GoodIn wsX3_fallsDue wsX3_takes := goodIn_r _ [22, 7, 8, 9, 5, 10, 1, 23, 24, 25, 26, 27, 28, 29, 30, 31, 32, 33, 34, 35, 36, 37, 38, 39, 40] (by decide +kernel) (by decide +kernel)
set_option maxRecDepth 20000 in
theorem gX3_fallsDue_X3_takes : GoodIn wsX3_fallsDue (wsV RX3 68 RX3 yX3_takes wsX3_takes) := goodIn_app (goodIn_of _ (by decide +kernel)) ggX3_fallsDue_X3_takes
set_option maxRecDepth 20000 in
theorem ggX3_fallsDue_X3_pledgeOf : GoodIn wsX3_fallsDue wsX3_pledgeOf := goodIn_r _ [18, 1, 27, 28, 29, 30, 31, 32, 33, 34, 35, 36, 37, 38, 39, 40] (by decide +kernel) (by decide +kernel)
set_option maxRecDepth 20000 in
theorem gX3_fallsDue_X3_pledgeOf : GoodIn wsX3_fallsDue (wsV RX3 31 RX3 yX3_pledgeOf wsX3_pledgeOf) := goodIn_app (goodIn_of _ (by decide +kernel)) ggX3_fallsDue_X3_pledgeOf
set_option maxRecDepth 20000 in
theorem ggX3_fallsDue_X3_of : GoodIn wsX3_fallsDue wsX3_of := goodIn_r _ [10, 1, 27, 28, 29, 30, 31, 32, 33, 34, 35, 36, 37, 38, 39, 40] (by decide +kernel) (by decide +kernel)
set_option maxRecDepth 20000 in
theorem gX3_fallsDue_X3_of : GoodIn wsX3_fallsDue (wsV RX3 35 RX3 yX3_of wsX3_of) := goodIn_app (goodIn_of _ (by decide +kernel)) ggX3_fallsDue_X3_of
set_option maxRecDepth 20000 in
theorem ggX3_fallsDue_X3_adds : GoodIn wsX3_fallsDue wsX3_adds := goodIn_r _ [26, 1, 27, 28, 29, 30, 31, 32, 33, 34, 35, 36, 37, 38, 39, 40] (by decide +kernel) (by decide +kernel)
set_option maxRecDepth 20000 in
theorem gX3_fallsDue_X3_adds : GoodIn wsX3_fallsDue (wsV RX3 58 RX3 yX3_adds wsX3_adds) := goodIn_app (goodIn_of _ (by decide +kernel)) ggX3_fallsDue_X3_adds
theorem dX3_fallsDue_0 : decode cX3_fallsDue 0 = .ok (.aload_n 0, 1) := by decide +kernel
theorem dX3_fallsDue_1 : decode cX3_fallsDue 1 = .ok (.iload_n 1, 1) := by decide +kernel
theorem dX3_fallsDue_2 : decode cX3_fallsDue 2 = .ok (.iload_n 1, 1) := by decide +kernel
theorem dX3_fallsDue_3 : decode cX3_fallsDue 3 = .ok (.aload_n 0, 1) := by decide +kernel
theorem dX3_fallsDue_4 : decode cX3_fallsDue 4 = .ok (.iload_n 1, 1) := by decide +kernel
theorem dX3_fallsDue_5 : decode cX3_fallsDue 5 = .ok (.invokevirtual 42, 3) := by decide +kernel
theorem dX3_fallsDue_8 : decode cX3_fallsDue 8 = .ok (.invokevirtual 68, 3) := by decide +kernel
theorem dX3_fallsDue_11 : decode cX3_fallsDue 11 = .ok (.pop, 1) := by decide +kernel
theorem dX3_fallsDue_12 : decode cX3_fallsDue 12 = .ok (.iconst 0, 1) := by decide +kernel
theorem dX3_fallsDue_13 : decode cX3_fallsDue 13 = .ok (.istore_n 2, 1) := by decide +kernel
theorem dX3_fallsDue_14 : decode cX3_fallsDue 14 = .ok (.iload_n 2, 1) := by decide +kernel
theorem dX3_fallsDue_15 : decode cX3_fallsDue 15 = .ok (.bipush 6, 2) := by decide +kernel
theorem dX3_fallsDue_17 : decode cX3_fallsDue 17 = .ok (.if_icmp .ge 38, 3) := by decide +kernel
theorem dX3_fallsDue_20 : decode cX3_fallsDue 20 = .ok (.aload_n 0, 1) := by decide +kernel
theorem dX3_fallsDue_21 : decode cX3_fallsDue 21 = .ok (.getfield 7, 3) := by decide +kernel
theorem dX3_fallsDue_24 : decode cX3_fallsDue 24 = .ok (.bipush 46, 2) := by decide +kernel
theorem dX3_fallsDue_26 : decode cX3_fallsDue 26 = .ok (.bipush 6, 2) := by decide +kernel
theorem dX3_fallsDue_28 : decode cX3_fallsDue 28 = .ok (.iload_n 2, 1) := by decide +kernel
theorem dX3_fallsDue_29 : decode cX3_fallsDue 29 = .ok (.imul, 1) := by decide +kernel
theorem dX3_fallsDue_30 : decode cX3_fallsDue 30 = .ok (.iadd, 1) := by decide +kernel
theorem dX3_fallsDue_31 : decode cX3_fallsDue 31 = .ok (.iload_n 1, 1) := by decide +kernel
theorem dX3_fallsDue_32 : decode cX3_fallsDue 32 = .ok (.iadd, 1) := by decide +kernel
theorem dX3_fallsDue_33 : decode cX3_fallsDue 33 = .ok (.dup2, 1) := by decide +kernel
theorem dX3_fallsDue_34 : decode cX3_fallsDue 34 = .ok (.iaload, 1) := by decide +kernel
theorem dX3_fallsDue_35 : decode cX3_fallsDue 35 = .ok (.aload_n 0, 1) := by decide +kernel
theorem dX3_fallsDue_36 : decode cX3_fallsDue 36 = .ok (.iload_n 1, 1) := by decide +kernel
theorem dX3_fallsDue_37 : decode cX3_fallsDue 37 = .ok (.iload_n 2, 1) := by decide +kernel
theorem dX3_fallsDue_38 : decode cX3_fallsDue 38 = .ok (.aload_n 0, 1) := by decide +kernel
theorem dX3_fallsDue_39 : decode cX3_fallsDue 39 = .ok (.iload_n 2, 1) := by decide +kernel
theorem dX3_fallsDue_40 : decode cX3_fallsDue 40 = .ok (.iload_n 1, 1) := by decide +kernel
theorem dX3_fallsDue_41 : decode cX3_fallsDue 41 = .ok (.invokevirtual 31, 3) := by decide +kernel
theorem dX3_fallsDue_44 : decode cX3_fallsDue 44 = .ok (.invokevirtual 68, 3) := by decide +kernel
theorem dX3_fallsDue_47 : decode cX3_fallsDue 47 = .ok (.isub, 1) := by decide +kernel
theorem dX3_fallsDue_48 : decode cX3_fallsDue 48 = .ok (.iastore, 1) := by decide +kernel
theorem dX3_fallsDue_49 : decode cX3_fallsDue 49 = .ok (.iinc 2 1, 3) := by decide +kernel
theorem dX3_fallsDue_52 : decode cX3_fallsDue 52 = .ok (.goto (-38), 3) := by decide +kernel
theorem dX3_fallsDue_55 : decode cX3_fallsDue 55 = .ok (.aload_n 0, 1) := by decide +kernel
theorem dX3_fallsDue_56 : decode cX3_fallsDue 56 = .ok (.iload_n 1, 1) := by decide +kernel
theorem dX3_fallsDue_57 : decode cX3_fallsDue 57 = .ok (.iconst 2, 1) := by decide +kernel
theorem dX3_fallsDue_58 : decode cX3_fallsDue 58 = .ok (.aload_n 0, 1) := by decide +kernel
theorem dX3_fallsDue_59 : decode cX3_fallsDue 59 = .ok (.iload_n 1, 1) := by decide +kernel
theorem dX3_fallsDue_60 : decode cX3_fallsDue 60 = .ok (.iconst 2, 1) := by decide +kernel
theorem dX3_fallsDue_61 : decode cX3_fallsDue 61 = .ok (.invokevirtual 35, 3) := by decide +kernel
theorem dX3_fallsDue_64 : decode cX3_fallsDue 64 = .ok (.ineg, 1) := by decide +kernel
theorem dX3_fallsDue_65 : decode cX3_fallsDue 65 = .ok (.invokevirtual 58, 3) := by decide +kernel
theorem dX3_fallsDue_68 : decode cX3_fallsDue 68 = .ok (.aload_n 0, 1) := by decide +kernel
theorem dX3_fallsDue_69 : decode cX3_fallsDue 69 = .ok (.getfield 7, 3) := by decide +kernel
theorem dX3_fallsDue_72 : decode cX3_fallsDue 72 = .ok (.iconst 3, 1) := by decide +kernel
theorem dX3_fallsDue_73 : decode cX3_fallsDue 73 = .ok (.dup2, 1) := by decide +kernel
theorem dX3_fallsDue_74 : decode cX3_fallsDue 74 = .ok (.iaload, 1) := by decide +kernel
theorem dX3_fallsDue_75 : decode cX3_fallsDue 75 = .ok (.iconst 1, 1) := by decide +kernel
theorem dX3_fallsDue_76 : decode cX3_fallsDue 76 = .ok (.iadd, 1) := by decide +kernel
theorem dX3_fallsDue_77 : decode cX3_fallsDue 77 = .ok (.iastore, 1) := by decide +kernel
theorem dX3_fallsDue_78 : decode cX3_fallsDue 78 = .ok (.return_, 1) := by decide +kernel
set_option maxRecDepth 20000 in
theorem ggX3_endsWeek_X3_of : GoodIn wsX3_endsWeek wsX3_of := goodIn_r _ [6, 1, 31, 32, 33, 34, 35, 36, 37, 38, 39, 40, 41, 42, 43, 44] (by decide +kernel) (by decide +kernel)
set_option maxRecDepth 20000 in
theorem gX3_endsWeek_X3_of : GoodIn wsX3_endsWeek (wsV RX3 35 RX3 yX3_of wsX3_of) := goodIn_app (goodIn_of _ (by decide +kernel)) ggX3_endsWeek_X3_of
set_option maxRecDepth 20000 in
theorem ggX3_endsWeek_X3_adds : GoodIn wsX3_endsWeek wsX3_adds := goodIn_r _ [10, 1, 31, 32, 33, 34, 35, 36, 37, 38, 39, 40, 41, 42, 43, 44] (by decide +kernel) (by decide +kernel)
set_option maxRecDepth 20000 in
theorem gX3_endsWeek_X3_adds : GoodIn wsX3_endsWeek (wsV RX3 58 RX3 yX3_adds wsX3_adds) := goodIn_app (goodIn_of _ (by decide +kernel)) ggX3_endsWeek_X3_adds
set_option maxRecDepth 20000 in
theorem ggX3_endsWeek_X3_fallsDue : GoodIn wsX3_endsWeek wsX3_fallsDue := goodIn_r _ [14, 1, 15, 16, 17, 5, 18, 2, 3, 4, 6, 19, 20, 21, 22, 23, 24, 25, 26, 27, 28, 29, 30, 7, 8, 9, 10, 31, 32, 33, 34, 35, 36, 37, 38, 39, 40, 41, 42, 43, 44] (by decide +kernel) (by decide +kernel)
set_option maxRecDepth 20000 in
theorem gX3_endsWeek_X3_fallsDue : GoodIn wsX3_endsWeek (wsV RX3 72 RX3 yX3_fallsDue wsX3_fallsDue) := goodIn_app (goodIn_of _ (by decide +kernel)) ggX3_endsWeek_X3_fallsDue
theorem dX3_endsWeek_0 : decode cX3_endsWeek 0 = .ok (.iconst 0, 1) := by decide +kernel
theorem dX3_endsWeek_1 : decode cX3_endsWeek 1 = .ok (.istore_n 1, 1) := by decide +kernel
theorem dX3_endsWeek_2 : decode cX3_endsWeek 2 = .ok (.iconst 0, 1) := by decide +kernel
theorem dX3_endsWeek_3 : decode cX3_endsWeek 3 = .ok (.istore_n 2, 1) := by decide +kernel
theorem dX3_endsWeek_4 : decode cX3_endsWeek 4 = .ok (.iload_n 2, 1) := by decide +kernel
theorem dX3_endsWeek_5 : decode cX3_endsWeek 5 = .ok (.bipush 6, 2) := by decide +kernel
theorem dX3_endsWeek_7 : decode cX3_endsWeek 7 = .ok (.if_icmp .ge 97, 3) := by decide +kernel
theorem dX3_endsWeek_10 : decode cX3_endsWeek 10 = .ok (.aload_n 0, 1) := by decide +kernel
theorem dX3_endsWeek_11 : decode cX3_endsWeek 11 = .ok (.iload_n 2, 1) := by decide +kernel
theorem dX3_endsWeek_12 : decode cX3_endsWeek 12 = .ok (.iconst 2, 1) := by decide +kernel
theorem dX3_endsWeek_13 : decode cX3_endsWeek 13 = .ok (.invokevirtual 35, 3) := by decide +kernel
theorem dX3_endsWeek_16 : decode cX3_endsWeek 16 = .ok (.ifCond .le 82, 3) := by decide +kernel
theorem dX3_endsWeek_19 : decode cX3_endsWeek 19 = .ok (.aload_n 0, 1) := by decide +kernel
theorem dX3_endsWeek_20 : decode cX3_endsWeek 20 = .ok (.iload_n 2, 1) := by decide +kernel
theorem dX3_endsWeek_21 : decode cX3_endsWeek 21 = .ok (.iconst 4, 1) := by decide +kernel
theorem dX3_endsWeek_22 : decode cX3_endsWeek 22 = .ok (.invokevirtual 35, 3) := by decide +kernel
theorem dX3_endsWeek_25 : decode cX3_endsWeek 25 = .ok (.aload_n 0, 1) := by decide +kernel
theorem dX3_endsWeek_26 : decode cX3_endsWeek 26 = .ok (.iload_n 2, 1) := by decide +kernel
theorem dX3_endsWeek_27 : decode cX3_endsWeek 27 = .ok (.iconst 3, 1) := by decide +kernel
theorem dX3_endsWeek_28 : decode cX3_endsWeek 28 = .ok (.invokevirtual 35, 3) := by decide +kernel
theorem dX3_endsWeek_31 : decode cX3_endsWeek 31 = .ok (.if_icmp .ge 7, 3) := by decide +kernel
theorem dX3_endsWeek_34 : decode cX3_endsWeek 34 = .ok (.iconst 1, 1) := by decide +kernel
theorem dX3_endsWeek_35 : decode cX3_endsWeek 35 = .ok (.goto 4, 3) := by decide +kernel
theorem dX3_endsWeek_38 : decode cX3_endsWeek 38 = .ok (.iconst 0, 1) := by decide +kernel
theorem dX3_endsWeek_39 : decode cX3_endsWeek 39 = .ok (.istore_n 3, 1) := by decide +kernel
theorem dX3_endsWeek_40 : decode cX3_endsWeek 40 = .ok (.aload_n 0, 1) := by decide +kernel
theorem dX3_endsWeek_41 : decode cX3_endsWeek 41 = .ok (.iload_n 2, 1) := by decide +kernel
theorem dX3_endsWeek_42 : decode cX3_endsWeek 42 = .ok (.iconst 5, 1) := by decide +kernel
theorem dX3_endsWeek_43 : decode cX3_endsWeek 43 = .ok (.iload_n 3, 1) := by decide +kernel
theorem dX3_endsWeek_44 : decode cX3_endsWeek 44 = .ok (.ifCond .eq 7, 3) := by decide +kernel
theorem dX3_endsWeek_47 : decode cX3_endsWeek 47 = .ok (.iconst 1, 1) := by decide +kernel
theorem dX3_endsWeek_48 : decode cX3_endsWeek 48 = .ok (.goto 10, 3) := by decide +kernel
theorem dX3_endsWeek_51 : decode cX3_endsWeek 51 = .ok (.aload_n 0, 1) := by decide +kernel
theorem dX3_endsWeek_52 : decode cX3_endsWeek 52 = .ok (.iload_n 2, 1) := by decide +kernel
theorem dX3_endsWeek_53 : decode cX3_endsWeek 53 = .ok (.iconst 5, 1) := by decide +kernel
theorem dX3_endsWeek_54 : decode cX3_endsWeek 54 = .ok (.invokevirtual 35, 3) := by decide +kernel
theorem dX3_endsWeek_57 : decode cX3_endsWeek 57 = .ok (.ineg, 1) := by decide +kernel
theorem dX3_endsWeek_58 : decode cX3_endsWeek 58 = .ok (.invokevirtual 58, 3) := by decide +kernel
theorem dX3_endsWeek_61 : decode cX3_endsWeek 61 = .ok (.aload_n 0, 1) := by decide +kernel
theorem dX3_endsWeek_62 : decode cX3_endsWeek 62 = .ok (.iload_n 2, 1) := by decide +kernel
theorem dX3_endsWeek_63 : decode cX3_endsWeek 63 = .ok (.iconst 4, 1) := by decide +kernel
theorem dX3_endsWeek_64 : decode cX3_endsWeek 64 = .ok (.aload_n 0, 1) := by decide +kernel
theorem dX3_endsWeek_65 : decode cX3_endsWeek 65 = .ok (.iload_n 2, 1) := by decide +kernel
theorem dX3_endsWeek_66 : decode cX3_endsWeek 66 = .ok (.iconst 4, 1) := by decide +kernel
theorem dX3_endsWeek_67 : decode cX3_endsWeek 67 = .ok (.invokevirtual 35, 3) := by decide +kernel
theorem dX3_endsWeek_70 : decode cX3_endsWeek 70 = .ok (.ineg, 1) := by decide +kernel
theorem dX3_endsWeek_71 : decode cX3_endsWeek 71 = .ok (.invokevirtual 58, 3) := by decide +kernel
theorem dX3_endsWeek_74 : decode cX3_endsWeek 74 = .ok (.aload_n 0, 1) := by decide +kernel
theorem dX3_endsWeek_75 : decode cX3_endsWeek 75 = .ok (.iload_n 2, 1) := by decide +kernel
theorem dX3_endsWeek_76 : decode cX3_endsWeek 76 = .ok (.iconst 5, 1) := by decide +kernel
theorem dX3_endsWeek_77 : decode cX3_endsWeek 77 = .ok (.invokevirtual 35, 3) := by decide +kernel
theorem dX3_endsWeek_80 : decode cX3_endsWeek 80 = .ok (.aload_n 0, 1) := by decide +kernel
theorem dX3_endsWeek_81 : decode cX3_endsWeek 81 = .ok (.getfield 7, 3) := by decide +kernel
theorem dX3_endsWeek_84 : decode cX3_endsWeek 84 = .ok (.bipush 9, 2) := by decide +kernel
theorem dX3_endsWeek_86 : decode cX3_endsWeek 86 = .ok (.iaload, 1) := by decide +kernel
theorem dX3_endsWeek_87 : decode cX3_endsWeek 87 = .ok (.if_icmp .lt 11, 3) := by decide +kernel
theorem dX3_endsWeek_90 : decode cX3_endsWeek 90 = .ok (.aload_n 0, 1) := by decide +kernel
theorem dX3_endsWeek_91 : decode cX3_endsWeek 91 = .ok (.iload_n 2, 1) := by decide +kernel
theorem dX3_endsWeek_92 : decode cX3_endsWeek 92 = .ok (.invokevirtual 72, 3) := by decide +kernel
theorem dX3_endsWeek_95 : decode cX3_endsWeek 95 = .ok (.iinc 1 1, 3) := by decide +kernel
theorem dX3_endsWeek_98 : decode cX3_endsWeek 98 = .ok (.iinc 2 1, 3) := by decide +kernel
theorem dX3_endsWeek_101 : decode cX3_endsWeek 101 = .ok (.goto (-97), 3) := by decide +kernel
theorem dX3_endsWeek_104 : decode cX3_endsWeek 104 = .ok (.aload_n 0, 1) := by decide +kernel
theorem dX3_endsWeek_105 : decode cX3_endsWeek 105 = .ok (.getfield 7, 3) := by decide +kernel
theorem dX3_endsWeek_108 : decode cX3_endsWeek 108 = .ok (.iconst 4, 1) := by decide +kernel
theorem dX3_endsWeek_109 : decode cX3_endsWeek 109 = .ok (.dup2, 1) := by decide +kernel
theorem dX3_endsWeek_110 : decode cX3_endsWeek 110 = .ok (.iaload, 1) := by decide +kernel
theorem dX3_endsWeek_111 : decode cX3_endsWeek 111 = .ok (.iconst 1, 1) := by decide +kernel
theorem dX3_endsWeek_112 : decode cX3_endsWeek 112 = .ok (.iadd, 1) := by decide +kernel
theorem dX3_endsWeek_113 : decode cX3_endsWeek 113 = .ok (.iastore, 1) := by decide +kernel
theorem dX3_endsWeek_114 : decode cX3_endsWeek 114 = .ok (.iload_n 1, 1) := by decide +kernel
theorem dX3_endsWeek_115 : decode cX3_endsWeek 115 = .ok (.ireturn, 1) := by decide +kernel
set_option maxRecDepth 20000 in
theorem ggX3_allDays_X3_of : GoodIn wsX3_allDays wsX3_of := goodIn_r _ [5, 6, 7, 8, 9, 10, 11, 12, 13, 14, 15, 16, 17, 18, 19, 20] (by decide +kernel) (by decide +kernel)
set_option maxRecDepth 20000 in
theorem gX3_allDays_X3_of : GoodIn wsX3_allDays (wsV RX3 35 RX3 yX3_of wsX3_of) := goodIn_app (goodIn_of _ (by decide +kernel)) ggX3_allDays_X3_of
theorem dX3_allDays_0 : decode cX3_allDays 0 = .ok (.lconst 0, 1) := by decide +kernel
theorem dX3_allDays_1 : decode cX3_allDays 1 = .ok (.lstore_n 1, 1) := by decide +kernel
theorem dX3_allDays_2 : decode cX3_allDays 2 = .ok (.iconst 0, 1) := by decide +kernel
theorem dX3_allDays_3 : decode cX3_allDays 3 = .ok (.istore_n 3, 1) := by decide +kernel
theorem dX3_allDays_4 : decode cX3_allDays 4 = .ok (.iload_n 3, 1) := by decide +kernel
theorem dX3_allDays_5 : decode cX3_allDays 5 = .ok (.bipush 6, 2) := by decide +kernel
theorem dX3_allDays_7 : decode cX3_allDays 7 = .ok (.if_icmp .ge 19, 3) := by decide +kernel
theorem dX3_allDays_10 : decode cX3_allDays 10 = .ok (.lload_n 1, 1) := by decide +kernel
theorem dX3_allDays_11 : decode cX3_allDays 11 = .ok (.aload_n 0, 1) := by decide +kernel
theorem dX3_allDays_12 : decode cX3_allDays 12 = .ok (.iload_n 3, 1) := by decide +kernel
theorem dX3_allDays_13 : decode cX3_allDays 13 = .ok (.iconst 1, 1) := by decide +kernel
theorem dX3_allDays_14 : decode cX3_allDays 14 = .ok (.invokevirtual 35, 3) := by decide +kernel
theorem dX3_allDays_17 : decode cX3_allDays 17 = .ok (.i2l, 1) := by decide +kernel
theorem dX3_allDays_18 : decode cX3_allDays 18 = .ok (.ladd, 1) := by decide +kernel
theorem dX3_allDays_19 : decode cX3_allDays 19 = .ok (.lstore_n 1, 1) := by decide +kernel
theorem dX3_allDays_20 : decode cX3_allDays 20 = .ok (.iinc 3 1, 3) := by decide +kernel
theorem dX3_allDays_23 : decode cX3_allDays 23 = .ok (.goto (-19), 3) := by decide +kernel
theorem dX3_allDays_26 : decode cX3_allDays 26 = .ok (.lload_n 1, 1) := by decide +kernel
theorem dX3_allDays_27 : decode cX3_allDays 27 = .ok (.lreturn, 1) := by decide +kernel
set_option maxRecDepth 20000 in
theorem ggX3_share_X3_allDays : GoodIn wsX3_share wsX3_allDays := goodIn_r _ [6, 7, 8, 9, 5, 10, 1, 11, 12, 13, 14, 15, 16, 17, 18, 19, 20, 21, 22, 23, 24] (by decide +kernel) (by decide +kernel)
set_option maxRecDepth 20000 in
theorem gX3_share_X3_allDays : GoodIn wsX3_share (wsV RX3 76 RX3 yX3_allDays wsX3_allDays) := goodIn_app (goodIn_of _ (by decide +kernel)) ggX3_share_X3_allDays
set_option maxRecDepth 20000 in
theorem ggX3_share_X3_of : GoodIn wsX3_share wsX3_of := goodIn_r _ [10, 1, 11, 12, 13, 14, 15, 16, 17, 18, 19, 20, 21, 22, 23, 24] (by decide +kernel) (by decide +kernel)
set_option maxRecDepth 20000 in
theorem gX3_share_X3_of : GoodIn wsX3_share (wsV RX3 35 RX3 yX3_of wsX3_of) := goodIn_app (goodIn_of _ (by decide +kernel)) ggX3_share_X3_of
theorem dX3_share_0 : decode cX3_share 0 = .ok (.aload_n 0, 1) := by decide +kernel
theorem dX3_share_1 : decode cX3_share 1 = .ok (.invokevirtual 76, 3) := by decide +kernel
theorem dX3_share_4 : decode cX3_share 4 = .ok (.lstore_n 2, 1) := by decide +kernel
theorem dX3_share_5 : decode cX3_share 5 = .ok (.lload_n 2, 1) := by decide +kernel
theorem dX3_share_6 : decode cX3_share 6 = .ok (.lconst 0, 1) := by decide +kernel
theorem dX3_share_7 : decode cX3_share 7 = .ok (.lcmp, 1) := by decide +kernel
theorem dX3_share_8 : decode cX3_share 8 = .ok (.ifCond .ne 7, 3) := by decide +kernel
theorem dX3_share_11 : decode cX3_share 11 = .ok (.iconst 0, 1) := by decide +kernel
theorem dX3_share_12 : decode cX3_share 12 = .ok (.goto 21, 3) := by decide +kernel
theorem dX3_share_15 : decode cX3_share 15 = .ok (.aload_n 0, 1) := by decide +kernel
theorem dX3_share_16 : decode cX3_share 16 = .ok (.getfield 7, 3) := by decide +kernel
theorem dX3_share_19 : decode cX3_share 19 = .ok (.iconst 1, 1) := by decide +kernel
theorem dX3_share_20 : decode cX3_share 20 = .ok (.iaload, 1) := by decide +kernel
theorem dX3_share_21 : decode cX3_share 21 = .ok (.i2l, 1) := by decide +kernel
theorem dX3_share_22 : decode cX3_share 22 = .ok (.aload_n 0, 1) := by decide +kernel
theorem dX3_share_23 : decode cX3_share 23 = .ok (.iload_n 1, 1) := by decide +kernel
theorem dX3_share_24 : decode cX3_share 24 = .ok (.iconst 1, 1) := by decide +kernel
theorem dX3_share_25 : decode cX3_share 25 = .ok (.invokevirtual 35, 3) := by decide +kernel
theorem dX3_share_28 : decode cX3_share 28 = .ok (.i2l, 1) := by decide +kernel
theorem dX3_share_29 : decode cX3_share 29 = .ok (.lmul, 1) := by decide +kernel
theorem dX3_share_30 : decode cX3_share 30 = .ok (.lload_n 2, 1) := by decide +kernel
theorem dX3_share_31 : decode cX3_share 31 = .ok (.ldiv, 1) := by decide +kernel
theorem dX3_share_32 : decode cX3_share 32 = .ok (.l2i, 1) := by decide +kernel
theorem dX3_share_33 : decode cX3_share 33 = .ok (.ireturn, 1) := by decide +kernel
theorem dX3_copies_0 : decode cX3_copies 0 = .ok (.iconst 0, 1) := by decide +kernel
theorem dX3_copies_1 : decode cX3_copies 1 = .ok (.istore_n 3, 1) := by decide +kernel
theorem dX3_copies_2 : decode cX3_copies 2 = .ok (.iload_n 3, 1) := by decide +kernel
theorem dX3_copies_3 : decode cX3_copies 3 = .ok (.bipush 82, 2) := by decide +kernel
theorem dX3_copies_5 : decode cX3_copies 5 = .ok (.if_icmp .ge 31, 3) := by decide +kernel
theorem dX3_copies_8 : decode cX3_copies 8 = .ok (.aload_n 0, 1) := by decide +kernel
theorem dX3_copies_9 : decode cX3_copies 9 = .ok (.getfield 7, 3) := by decide +kernel
theorem dX3_copies_12 : decode cX3_copies 12 = .ok (.bipush 82, 2) := by decide +kernel
theorem dX3_copies_14 : decode cX3_copies 14 = .ok (.iload_n 2, 1) := by decide +kernel
theorem dX3_copies_15 : decode cX3_copies 15 = .ok (.imul, 1) := by decide +kernel
theorem dX3_copies_16 : decode cX3_copies 16 = .ok (.iload_n 3, 1) := by decide +kernel
theorem dX3_copies_17 : decode cX3_copies 17 = .ok (.iadd, 1) := by decide +kernel
theorem dX3_copies_18 : decode cX3_copies 18 = .ok (.aload_n 0, 1) := by decide +kernel
theorem dX3_copies_19 : decode cX3_copies 19 = .ok (.getfield 7, 3) := by decide +kernel
theorem dX3_copies_22 : decode cX3_copies 22 = .ok (.bipush 82, 2) := by decide +kernel
theorem dX3_copies_24 : decode cX3_copies 24 = .ok (.iload_n 1, 1) := by decide +kernel
theorem dX3_copies_25 : decode cX3_copies 25 = .ok (.imul, 1) := by decide +kernel
theorem dX3_copies_26 : decode cX3_copies 26 = .ok (.iload_n 3, 1) := by decide +kernel
theorem dX3_copies_27 : decode cX3_copies 27 = .ok (.iadd, 1) := by decide +kernel
theorem dX3_copies_28 : decode cX3_copies 28 = .ok (.iaload, 1) := by decide +kernel
theorem dX3_copies_29 : decode cX3_copies 29 = .ok (.iastore, 1) := by decide +kernel
theorem dX3_copies_30 : decode cX3_copies 30 = .ok (.iinc 3 1, 3) := by decide +kernel
theorem dX3_copies_33 : decode cX3_copies 33 = .ok (.goto (-31), 3) := by decide +kernel
theorem dX3_copies_36 : decode cX3_copies 36 = .ok (.return_, 1) := by decide +kernel
set_option maxRecDepth 20000 in
theorem ggX3_save_X3_copies : GoodIn wsX3_save wsX3_copies := goodIn_r _ [6, 7, 8, 9, 10, 11, 12, 13, 14, 15, 16, 17, 18, 19, 20, 21] (by decide +kernel) (by decide +kernel)
set_option maxRecDepth 20000 in
theorem gX3_save_X3_copies : GoodIn wsX3_save (wsV RX3 83 RX3 yX3_copies wsX3_copies) := goodIn_app (goodIn_of _ (by decide +kernel)) ggX3_save_X3_copies
theorem dX3_save_0 : decode cX3_save 0 = .ok (.iconst 1, 1) := by decide +kernel
theorem dX3_save_1 : decode cX3_save 1 = .ok (.istore_n 1, 1) := by decide +kernel
theorem dX3_save_2 : decode cX3_save 2 = .ok (.iload_n 1, 1) := by decide +kernel
theorem dX3_save_3 : decode cX3_save 3 = .ok (.bipush 6, 2) := by decide +kernel
theorem dX3_save_5 : decode cX3_save 5 = .ok (.if_icmp .ge 26, 3) := by decide +kernel
theorem dX3_save_8 : decode cX3_save 8 = .ok (.aload_n 0, 1) := by decide +kernel
theorem dX3_save_9 : decode cX3_save 9 = .ok (.getfield 80, 3) := by decide +kernel
theorem dX3_save_12 : decode cX3_save 12 = .ok (.bipush 6, 2) := by decide +kernel
theorem dX3_save_14 : decode cX3_save 14 = .ok (.if_icmp .ne 17, 3) := by decide +kernel
theorem dX3_save_17 : decode cX3_save 17 = .ok (.aload_n 0, 1) := by decide +kernel
theorem dX3_save_18 : decode cX3_save 18 = .ok (.iload_n 1, 1) := by decide +kernel
theorem dX3_save_19 : decode cX3_save 19 = .ok (.iconst 1, 1) := by decide +kernel
theorem dX3_save_20 : decode cX3_save 20 = .ok (.iadd, 1) := by decide +kernel
theorem dX3_save_21 : decode cX3_save 21 = .ok (.iload_n 1, 1) := by decide +kernel
theorem dX3_save_22 : decode cX3_save 22 = .ok (.invokevirtual 83, 3) := by decide +kernel
theorem dX3_save_25 : decode cX3_save 25 = .ok (.iinc 1 1, 3) := by decide +kernel
theorem dX3_save_28 : decode cX3_save 28 = .ok (.goto (-26), 3) := by decide +kernel
theorem dX3_save_31 : decode cX3_save 31 = .ok (.aload_n 0, 1) := by decide +kernel
theorem dX3_save_32 : decode cX3_save 32 = .ok (.dup, 1) := by decide +kernel
theorem dX3_save_33 : decode cX3_save 33 = .ok (.getfield 80, 3) := by decide +kernel
theorem dX3_save_36 : decode cX3_save 36 = .ok (.aload_n 0, 1) := by decide +kernel
theorem dX3_save_37 : decode cX3_save 37 = .ok (.getfield 80, 3) := by decide +kernel
theorem dX3_save_40 : decode cX3_save 40 = .ok (.bipush 6, 2) := by decide +kernel
theorem dX3_save_42 : decode cX3_save 42 = .ok (.if_icmp .ge 7, 3) := by decide +kernel
theorem dX3_save_45 : decode cX3_save 45 = .ok (.iconst 1, 1) := by decide +kernel
theorem dX3_save_46 : decode cX3_save 46 = .ok (.goto 4, 3) := by decide +kernel
theorem dX3_save_49 : decode cX3_save 49 = .ok (.iconst 0, 1) := by decide +kernel
theorem dX3_save_50 : decode cX3_save 50 = .ok (.iadd, 1) := by decide +kernel
theorem dX3_save_51 : decode cX3_save 51 = .ok (.putfield 80, 3) := by decide +kernel
theorem dX3_save_54 : decode cX3_save 54 = .ok (.aload_n 0, 1) := by decide +kernel
theorem dX3_save_55 : decode cX3_save 55 = .ok (.iconst 0, 1) := by decide +kernel
theorem dX3_save_56 : decode cX3_save 56 = .ok (.aload_n 0, 1) := by decide +kernel
theorem dX3_save_57 : decode cX3_save 57 = .ok (.getfield 80, 3) := by decide +kernel
theorem dX3_save_60 : decode cX3_save 60 = .ok (.invokevirtual 83, 3) := by decide +kernel
theorem dX3_save_63 : decode cX3_save 63 = .ok (.return_, 1) := by decide +kernel
set_option maxRecDepth 20000 in
theorem ggX3_isDeed_X3_isMember : GoodIn wsX3_isDeed wsX3_isMember := goodIn_r _ [4, 5, 6, 3, 7] (by decide +kernel) (by decide +kernel)
set_option maxRecDepth 20000 in
theorem gX3_isDeed_X3_isMember : GoodIn wsX3_isDeed (va_wsS RX3 87 yX3_isMember wsX3_isMember) := goodIn_app (goodIn_of _ (by decide +kernel)) ggX3_isDeed_X3_isMember
set_option maxRecDepth 20000 in
theorem ggX3_isDeed_X3_isAmount : GoodIn wsX3_isDeed wsX3_isAmount := goodIn_r _ [10, 5, 6, 3, 7] (by decide +kernel) (by decide +kernel)
set_option maxRecDepth 20000 in
theorem gX3_isDeed_X3_isAmount : GoodIn wsX3_isDeed (va_wsS RX3 91 yX3_isAmount wsX3_isAmount) := goodIn_app (goodIn_of _ (by decide +kernel)) ggX3_isDeed_X3_isAmount
set_option maxRecDepth 20000 in
theorem ggX3_isDeed_X3_holds : GoodIn wsX3_isDeed wsX3_holds := goodIn_r _ [14, 15, 16, 17, 18, 19, 20, 21, 22, 23, 24, 25, 26, 27, 28, 29] (by decide +kernel) (by decide +kernel)
set_option maxRecDepth 20000 in
theorem gX3_isDeed_X3_holds : GoodIn wsX3_isDeed (wsV RX3 94 RX3 yX3_holds wsX3_holds) := goodIn_app (goodIn_of _ (by decide +kernel)) ggX3_isDeed_X3_holds
theorem dX3_isDeed_0 : decode cX3_isDeed 0 = .ok (.aload_n 0, 1) := by decide +kernel
theorem dX3_isDeed_1 : decode cX3_isDeed 1 = .ok (.iload_n 1, 1) := by decide +kernel
theorem dX3_isDeed_2 : decode cX3_isDeed 2 = .ok (.invokestatic 87, 3) := by decide +kernel
theorem dX3_isDeed_5 : decode cX3_isDeed 5 = .ok (.ifCond .ne 7, 3) := by decide +kernel
theorem dX3_isDeed_8 : decode cX3_isDeed 8 = .ok (.iconst 1, 1) := by decide +kernel
theorem dX3_isDeed_9 : decode cX3_isDeed 9 = .ok (.goto 15, 3) := by decide +kernel
theorem dX3_isDeed_12 : decode cX3_isDeed 12 = .ok (.iload_n 2, 1) := by decide +kernel
theorem dX3_isDeed_13 : decode cX3_isDeed 13 = .ok (.invokestatic 91, 3) := by decide +kernel
theorem dX3_isDeed_16 : decode cX3_isDeed 16 = .ok (.ifCond .ne 7, 3) := by decide +kernel
theorem dX3_isDeed_19 : decode cX3_isDeed 19 = .ok (.iconst 2, 1) := by decide +kernel
theorem dX3_isDeed_20 : decode cX3_isDeed 20 = .ok (.goto 4, 3) := by decide +kernel
theorem dX3_isDeed_23 : decode cX3_isDeed 23 = .ok (.iconst 0, 1) := by decide +kernel
theorem dX3_isDeed_24 : decode cX3_isDeed 24 = .ok (.invokevirtual 94, 3) := by decide +kernel
theorem dX3_isDeed_27 : decode cX3_isDeed 27 = .ok (.ireturn, 1) := by decide +kernel
set_option maxRecDepth 20000 in
theorem ggX3_payIn_X3_isDeed : GoodIn wsX3_payIn wsX3_isDeed := goodIn_r _ [5, 6, 7, 4, 8, 9, 10, 11, 12, 13, 14, 15, 16, 17, 18, 19, 47, 48, 49, 50, 51, 52, 53, 54, 55, 56, 57, 58, 59, 60] (by decide +kernel) (by decide +kernel)
set_option maxRecDepth 20000 in
theorem gX3_payIn_X3_isDeed : GoodIn wsX3_payIn (wsV RX3 97 RX3 yX3_isDeed wsX3_isDeed) := goodIn_app (goodIn_of _ (by decide +kernel)) ggX3_payIn_X3_isDeed
set_option maxRecDepth 20000 in
theorem ggX3_payIn_X3_save : GoodIn wsX3_payIn wsX3_save := goodIn_r _ [23, 24, 25, 26, 27, 4, 28, 29, 47, 48, 49, 50, 51, 52, 53, 54, 55, 56, 57, 58, 59, 60] (by decide +kernel) (by decide +kernel)
set_option maxRecDepth 20000 in
theorem gX3_payIn_X3_save : GoodIn wsX3_payIn (wsV RX3 101 RX3 yX3_save wsX3_save) := goodIn_app (goodIn_of _ (by decide +kernel)) ggX3_payIn_X3_save
set_option maxRecDepth 20000 in
theorem ggX3_payIn_X3_paysIn : GoodIn wsX3_payIn wsX3_paysIn := goodIn_r _ [33, 34, 29, 35, 36, 37, 4, 38, 39, 40, 41, 42, 43, 44, 45, 46, 47, 48, 49, 50, 51, 52, 53, 54, 55, 56, 57, 58, 59, 60] (by decide +kernel) (by decide +kernel)
set_option maxRecDepth 20000 in
theorem gX3_payIn_X3_paysIn : GoodIn wsX3_payIn (wsV RX3 104 RX3 yX3_paysIn wsX3_paysIn) := goodIn_app (goodIn_of _ (by decide +kernel)) ggX3_payIn_X3_paysIn
theorem dX3_payIn_0 : decode cX3_payIn 0 = .ok (.aload_n 0, 1) := by decide +kernel
theorem dX3_payIn_1 : decode cX3_payIn 1 = .ok (.iload_n 1, 1) := by decide +kernel
theorem dX3_payIn_2 : decode cX3_payIn 2 = .ok (.iload_n 2, 1) := by decide +kernel
theorem dX3_payIn_3 : decode cX3_payIn 3 = .ok (.invokevirtual 97, 3) := by decide +kernel
theorem dX3_payIn_6 : decode cX3_payIn 6 = .ok (.ifCond .ne 5, 3) := by decide +kernel
theorem dX3_payIn_9 : decode cX3_payIn 9 = .ok (.iconst 0, 1) := by decide +kernel
theorem dX3_payIn_10 : decode cX3_payIn 10 = .ok (.ireturn, 1) := by decide +kernel
theorem dX3_payIn_11 : decode cX3_payIn 11 = .ok (.aload_n 0, 1) := by decide +kernel
theorem dX3_payIn_12 : decode cX3_payIn 12 = .ok (.invokevirtual 101, 3) := by decide +kernel
theorem dX3_payIn_15 : decode cX3_payIn 15 = .ok (.aload_n 0, 1) := by decide +kernel
theorem dX3_payIn_16 : decode cX3_payIn 16 = .ok (.iload_n 1, 1) := by decide +kernel
theorem dX3_payIn_17 : decode cX3_payIn 17 = .ok (.iload_n 2, 1) := by decide +kernel
theorem dX3_payIn_18 : decode cX3_payIn 18 = .ok (.invokevirtual 104, 3) := by decide +kernel
theorem dX3_payIn_21 : decode cX3_payIn 21 = .ok (.ireturn, 1) := by decide +kernel
set_option maxRecDepth 20000 in
theorem ggX3_payOut_X3_isDeed : GoodIn wsX3_payOut wsX3_isDeed := goodIn_r _ [5, 6, 7, 4, 8, 9, 10, 11, 12, 13, 14, 15, 16, 17, 18, 19, 66, 67, 68, 69, 70, 71, 72, 73, 74, 75, 76, 77, 78, 79] (by decide +kernel) (by decide +kernel)
set_option maxRecDepth 20000 in
theorem gX3_payOut_X3_isDeed : GoodIn wsX3_payOut (wsV RX3 97 RX3 yX3_isDeed wsX3_isDeed) := goodIn_app (goodIn_of _ (by decide +kernel)) ggX3_payOut_X3_isDeed
set_option maxRecDepth 20000 in
theorem ggX3_payOut_X3_save : GoodIn wsX3_payOut wsX3_save := goodIn_r _ [23, 24, 25, 26, 27, 4, 28, 29, 66, 67, 68, 69, 70, 71, 72, 73, 74, 75, 76, 77, 78, 79] (by decide +kernel) (by decide +kernel)
set_option maxRecDepth 20000 in
theorem gX3_payOut_X3_save : GoodIn wsX3_payOut (wsV RX3 101 RX3 yX3_save wsX3_save) := goodIn_app (goodIn_of _ (by decide +kernel)) ggX3_payOut_X3_save
set_option maxRecDepth 20000 in
theorem ggX3_payOut_X3_paysOut : GoodIn wsX3_payOut wsX3_paysOut := goodIn_r _ [33, 29, 34, 35, 36, 4, 37, 38, 39, 40, 41, 42, 43, 44, 45, 46, 47, 48, 49, 50, 51, 52, 53, 54, 55, 56, 57, 58, 59, 60, 61, 62, 63, 64, 65, 66, 67, 68, 69, 70, 71, 72, 73, 74, 75, 76, 77, 78, 79] (by decide +kernel) (by decide +kernel)
set_option maxRecDepth 20000 in
theorem gX3_payOut_X3_paysOut : GoodIn wsX3_payOut (wsV RX3 107 RX3 yX3_paysOut wsX3_paysOut) := goodIn_app (goodIn_of _ (by decide +kernel)) ggX3_payOut_X3_paysOut
theorem dX3_payOut_0 : decode cX3_payOut 0 = .ok (.aload_n 0, 1) := by decide +kernel
theorem dX3_payOut_1 : decode cX3_payOut 1 = .ok (.iload_n 1, 1) := by decide +kernel
theorem dX3_payOut_2 : decode cX3_payOut 2 = .ok (.iload_n 2, 1) := by decide +kernel
theorem dX3_payOut_3 : decode cX3_payOut 3 = .ok (.invokevirtual 97, 3) := by decide +kernel
theorem dX3_payOut_6 : decode cX3_payOut 6 = .ok (.ifCond .ne 5, 3) := by decide +kernel
theorem dX3_payOut_9 : decode cX3_payOut 9 = .ok (.iconst 0, 1) := by decide +kernel
theorem dX3_payOut_10 : decode cX3_payOut 10 = .ok (.ireturn, 1) := by decide +kernel
theorem dX3_payOut_11 : decode cX3_payOut 11 = .ok (.aload_n 0, 1) := by decide +kernel
theorem dX3_payOut_12 : decode cX3_payOut 12 = .ok (.invokevirtual 101, 3) := by decide +kernel
theorem dX3_payOut_15 : decode cX3_payOut 15 = .ok (.aload_n 0, 1) := by decide +kernel
theorem dX3_payOut_16 : decode cX3_payOut 16 = .ok (.iload_n 1, 1) := by decide +kernel
theorem dX3_payOut_17 : decode cX3_payOut 17 = .ok (.iload_n 2, 1) := by decide +kernel
theorem dX3_payOut_18 : decode cX3_payOut 18 = .ok (.invokevirtual 107, 3) := by decide +kernel
theorem dX3_payOut_21 : decode cX3_payOut 21 = .ok (.ireturn, 1) := by decide +kernel
set_option maxRecDepth 20000 in
theorem ggX3_isPair_X3_isMember : GoodIn wsX3_isPair wsX3_isMember := goodIn_r _ [4, 5, 6, 3, 7] (by decide +kernel) (by decide +kernel)
set_option maxRecDepth 20000 in
theorem gX3_isPair_X3_isMember : GoodIn wsX3_isPair (va_wsS RX3 87 yX3_isMember wsX3_isMember) := goodIn_app (goodIn_of _ (by decide +kernel)) ggX3_isPair_X3_isMember
set_option maxRecDepth 20000 in
theorem ggX3_isPair_X3_isAmount : GoodIn wsX3_isPair wsX3_isAmount := goodIn_r _ [10, 5, 6, 3, 7] (by decide +kernel) (by decide +kernel)
set_option maxRecDepth 20000 in
theorem gX3_isPair_X3_isAmount : GoodIn wsX3_isPair (va_wsS RX3 91 yX3_isAmount wsX3_isAmount) := goodIn_app (goodIn_of _ (by decide +kernel)) ggX3_isPair_X3_isAmount
set_option maxRecDepth 20000 in
theorem ggX3_isPair_X3_holds : GoodIn wsX3_isPair wsX3_holds := goodIn_r _ [14, 15, 16, 17, 18, 19, 20, 21, 22, 23, 24, 25, 26, 27, 28, 29] (by decide +kernel) (by decide +kernel)
set_option maxRecDepth 20000 in
theorem gX3_isPair_X3_holds : GoodIn wsX3_isPair (wsV RX3 94 RX3 yX3_holds wsX3_holds) := goodIn_app (goodIn_of _ (by decide +kernel)) ggX3_isPair_X3_holds
theorem dX3_isPair_0 : decode cX3_isPair 0 = .ok (.iload_n 1, 1) := by decide +kernel
theorem dX3_isPair_1 : decode cX3_isPair 1 = .ok (.invokestatic 87, 3) := by decide +kernel
theorem dX3_isPair_4 : decode cX3_isPair 4 = .ok (.ifCond .eq 14, 3) := by decide +kernel
theorem dX3_isPair_7 : decode cX3_isPair 7 = .ok (.iload_n 2, 1) := by decide +kernel
theorem dX3_isPair_8 : decode cX3_isPair 8 = .ok (.invokestatic 87, 3) := by decide +kernel
theorem dX3_isPair_11 : decode cX3_isPair 11 = .ok (.ifCond .eq 7, 3) := by decide +kernel
theorem dX3_isPair_14 : decode cX3_isPair 14 = .ok (.iconst 1, 1) := by decide +kernel
theorem dX3_isPair_15 : decode cX3_isPair 15 = .ok (.goto 4, 3) := by decide +kernel
theorem dX3_isPair_18 : decode cX3_isPair 18 = .ok (.iconst 0, 1) := by decide +kernel
theorem dX3_isPair_19 : decode cX3_isPair 19 = .ok (.istore 4, 2) := by decide +kernel
theorem dX3_isPair_21 : decode cX3_isPair 21 = .ok (.aload_n 0, 1) := by decide +kernel
theorem dX3_isPair_22 : decode cX3_isPair 22 = .ok (.iload 4, 2) := by decide +kernel
theorem dX3_isPair_24 : decode cX3_isPair 24 = .ok (.ifCond .ne 7, 3) := by decide +kernel
theorem dX3_isPair_27 : decode cX3_isPair 27 = .ok (.iconst 1, 1) := by decide +kernel
theorem dX3_isPair_28 : decode cX3_isPair 28 = .ok (.goto 20, 3) := by decide +kernel
theorem dX3_isPair_31 : decode cX3_isPair 31 = .ok (.iload_n 1, 1) := by decide +kernel
theorem dX3_isPair_32 : decode cX3_isPair 32 = .ok (.iload_n 2, 1) := by decide +kernel
theorem dX3_isPair_33 : decode cX3_isPair 33 = .ok (.if_icmp .eq 10, 3) := by decide +kernel
theorem dX3_isPair_36 : decode cX3_isPair 36 = .ok (.iload_n 3, 1) := by decide +kernel
theorem dX3_isPair_37 : decode cX3_isPair 37 = .ok (.invokestatic 91, 3) := by decide +kernel
theorem dX3_isPair_40 : decode cX3_isPair 40 = .ok (.ifCond .ne 7, 3) := by decide +kernel
theorem dX3_isPair_43 : decode cX3_isPair 43 = .ok (.iconst 2, 1) := by decide +kernel
theorem dX3_isPair_44 : decode cX3_isPair 44 = .ok (.goto 4, 3) := by decide +kernel
theorem dX3_isPair_47 : decode cX3_isPair 47 = .ok (.iconst 0, 1) := by decide +kernel
theorem dX3_isPair_48 : decode cX3_isPair 48 = .ok (.invokevirtual 94, 3) := by decide +kernel
theorem dX3_isPair_51 : decode cX3_isPair 51 = .ok (.ireturn, 1) := by decide +kernel
set_option maxRecDepth 20000 in
theorem ggX3_pledge_X3_isPair : GoodIn wsX3_pledge wsX3_isPair := goodIn_r _ [5, 6, 7, 4, 8, 9, 10, 11, 12, 13, 14, 15, 16, 17, 18, 19, 62, 63, 64, 65, 66, 67, 68, 69, 70, 71, 72, 73, 74, 75] (by decide +kernel) (by decide +kernel)
set_option maxRecDepth 20000 in
theorem gX3_pledge_X3_isPair : GoodIn wsX3_pledge (wsV RX3 110 RX3 yX3_isPair wsX3_isPair) := goodIn_app (goodIn_of _ (by decide +kernel)) ggX3_pledge_X3_isPair
set_option maxRecDepth 20000 in
theorem ggX3_pledge_X3_save : GoodIn wsX3_pledge wsX3_save := goodIn_r _ [23, 24, 25, 26, 27, 4, 28, 29, 62, 63, 64, 65, 66, 67, 68, 69, 70, 71, 72, 73, 74, 75] (by decide +kernel) (by decide +kernel)
set_option maxRecDepth 20000 in
theorem gX3_pledge_X3_save : GoodIn wsX3_pledge (wsV RX3 101 RX3 yX3_save wsX3_save) := goodIn_app (goodIn_of _ (by decide +kernel)) ggX3_pledge_X3_save
set_option maxRecDepth 20000 in
theorem ggX3_pledge_X3_pledges : GoodIn wsX3_pledge wsX3_pledges := goodIn_r _ [33, 29, 34, 35, 36, 4, 37, 38, 39, 40, 41, 42, 43, 44, 45, 46, 47, 48, 49, 50, 51, 52, 53, 54, 55, 56, 57, 58, 59, 60, 61, 62, 63, 64, 65, 66, 67, 68, 69, 70, 71, 72, 73, 74, 75] (by decide +kernel) (by decide +kernel)
set_option maxRecDepth 20000 in
theorem gX3_pledge_X3_pledges : GoodIn wsX3_pledge (wsV RX3 113 RX3 yX3_pledges wsX3_pledges) := goodIn_app (goodIn_of _ (by decide +kernel)) ggX3_pledge_X3_pledges
theorem dX3_pledge_0 : decode cX3_pledge 0 = .ok (.aload_n 0, 1) := by decide +kernel
theorem dX3_pledge_1 : decode cX3_pledge 1 = .ok (.iload_n 1, 1) := by decide +kernel
theorem dX3_pledge_2 : decode cX3_pledge 2 = .ok (.iload_n 2, 1) := by decide +kernel
theorem dX3_pledge_3 : decode cX3_pledge 3 = .ok (.iload_n 3, 1) := by decide +kernel
theorem dX3_pledge_4 : decode cX3_pledge 4 = .ok (.invokevirtual 110, 3) := by decide +kernel
theorem dX3_pledge_7 : decode cX3_pledge 7 = .ok (.ifCond .ne 5, 3) := by decide +kernel
theorem dX3_pledge_10 : decode cX3_pledge 10 = .ok (.iconst 0, 1) := by decide +kernel
theorem dX3_pledge_11 : decode cX3_pledge 11 = .ok (.ireturn, 1) := by decide +kernel
theorem dX3_pledge_12 : decode cX3_pledge 12 = .ok (.aload_n 0, 1) := by decide +kernel
theorem dX3_pledge_13 : decode cX3_pledge 13 = .ok (.invokevirtual 101, 3) := by decide +kernel
theorem dX3_pledge_16 : decode cX3_pledge 16 = .ok (.aload_n 0, 1) := by decide +kernel
theorem dX3_pledge_17 : decode cX3_pledge 17 = .ok (.iload_n 1, 1) := by decide +kernel
theorem dX3_pledge_18 : decode cX3_pledge 18 = .ok (.iload_n 2, 1) := by decide +kernel
theorem dX3_pledge_19 : decode cX3_pledge 19 = .ok (.iload_n 3, 1) := by decide +kernel
theorem dX3_pledge_20 : decode cX3_pledge 20 = .ok (.invokevirtual 113, 3) := by decide +kernel
theorem dX3_pledge_23 : decode cX3_pledge 23 = .ok (.ireturn, 1) := by decide +kernel
set_option maxRecDepth 20000 in
theorem ggX3_unpledge_X3_isPair : GoodIn wsX3_unpledge wsX3_isPair := goodIn_r _ [5, 6, 7, 4, 8, 9, 10, 11, 12, 13, 14, 15, 16, 17, 18, 19, 62, 63, 64, 65, 66, 67, 68, 69, 70, 71, 72, 73, 74, 75] (by decide +kernel) (by decide +kernel)
set_option maxRecDepth 20000 in
theorem gX3_unpledge_X3_isPair : GoodIn wsX3_unpledge (wsV RX3 110 RX3 yX3_isPair wsX3_isPair) := goodIn_app (goodIn_of _ (by decide +kernel)) ggX3_unpledge_X3_isPair
set_option maxRecDepth 20000 in
theorem ggX3_unpledge_X3_save : GoodIn wsX3_unpledge wsX3_save := goodIn_r _ [23, 24, 25, 26, 27, 4, 28, 29, 62, 63, 64, 65, 66, 67, 68, 69, 70, 71, 72, 73, 74, 75] (by decide +kernel) (by decide +kernel)
set_option maxRecDepth 20000 in
theorem gX3_unpledge_X3_save : GoodIn wsX3_unpledge (wsV RX3 101 RX3 yX3_save wsX3_save) := goodIn_app (goodIn_of _ (by decide +kernel)) ggX3_unpledge_X3_save
set_option maxRecDepth 20000 in
theorem ggX3_unpledge_X3_takesBack : GoodIn wsX3_unpledge wsX3_takesBack := goodIn_r _ [33, 29, 34, 35, 36, 4, 37, 38, 39, 40, 41, 42, 43, 44, 45, 46, 47, 48, 49, 50, 51, 52, 53, 54, 55, 56, 57, 58, 59, 60, 61, 62, 63, 64, 65, 66, 67, 68, 69, 70, 71, 72, 73, 74, 75] (by decide +kernel) (by decide +kernel)
set_option maxRecDepth 20000 in
theorem gX3_unpledge_X3_takesBack : GoodIn wsX3_unpledge (wsV RX3 116 RX3 yX3_takesBack wsX3_takesBack) := goodIn_app (goodIn_of _ (by decide +kernel)) ggX3_unpledge_X3_takesBack
theorem dX3_unpledge_0 : decode cX3_unpledge 0 = .ok (.aload_n 0, 1) := by decide +kernel
theorem dX3_unpledge_1 : decode cX3_unpledge 1 = .ok (.iload_n 1, 1) := by decide +kernel
theorem dX3_unpledge_2 : decode cX3_unpledge 2 = .ok (.iload_n 2, 1) := by decide +kernel
theorem dX3_unpledge_3 : decode cX3_unpledge 3 = .ok (.iload_n 3, 1) := by decide +kernel
theorem dX3_unpledge_4 : decode cX3_unpledge 4 = .ok (.invokevirtual 110, 3) := by decide +kernel
theorem dX3_unpledge_7 : decode cX3_unpledge 7 = .ok (.ifCond .ne 5, 3) := by decide +kernel
theorem dX3_unpledge_10 : decode cX3_unpledge 10 = .ok (.iconst 0, 1) := by decide +kernel
theorem dX3_unpledge_11 : decode cX3_unpledge 11 = .ok (.ireturn, 1) := by decide +kernel
theorem dX3_unpledge_12 : decode cX3_unpledge 12 = .ok (.aload_n 0, 1) := by decide +kernel
theorem dX3_unpledge_13 : decode cX3_unpledge 13 = .ok (.invokevirtual 101, 3) := by decide +kernel
theorem dX3_unpledge_16 : decode cX3_unpledge 16 = .ok (.aload_n 0, 1) := by decide +kernel
theorem dX3_unpledge_17 : decode cX3_unpledge 17 = .ok (.iload_n 1, 1) := by decide +kernel
theorem dX3_unpledge_18 : decode cX3_unpledge 18 = .ok (.iload_n 2, 1) := by decide +kernel
theorem dX3_unpledge_19 : decode cX3_unpledge 19 = .ok (.iload_n 3, 1) := by decide +kernel
theorem dX3_unpledge_20 : decode cX3_unpledge 20 = .ok (.invokevirtual 116, 3) := by decide +kernel
theorem dX3_unpledge_23 : decode cX3_unpledge 23 = .ok (.ireturn, 1) := by decide +kernel
set_option maxRecDepth 20000 in
theorem ggX3_borrow_X3_isAmount : GoodIn wsX3_borrow wsX3_isAmount := goodIn_r _ [4, 5, 6, 3, 7] (by decide +kernel) (by decide +kernel)
set_option maxRecDepth 20000 in
theorem gX3_borrow_X3_isAmount : GoodIn wsX3_borrow (va_wsS RX3 91 yX3_isAmount wsX3_isAmount) := goodIn_app (goodIn_of _ (by decide +kernel)) ggX3_borrow_X3_isAmount
set_option maxRecDepth 20000 in
theorem ggX3_borrow_X3_in : GoodIn wsX3_borrow wsX3_in := goodIn_r _ [7] (by decide +kernel) (by decide +kernel)
set_option maxRecDepth 20000 in
theorem gX3_borrow_X3_in : GoodIn wsX3_borrow (va_wsS RX3 27 yX3_in wsX3_in) := goodIn_app (goodIn_of _ (by decide +kernel)) ggX3_borrow_X3_in
set_option maxRecDepth 20000 in
theorem ggX3_borrow_X3_isMember : GoodIn wsX3_borrow wsX3_isMember := goodIn_r _ [10, 5, 6, 3, 7] (by decide +kernel) (by decide +kernel)
set_option maxRecDepth 20000 in
theorem gX3_borrow_X3_isMember : GoodIn wsX3_borrow (va_wsS RX3 87 yX3_isMember wsX3_isMember) := goodIn_app (goodIn_of _ (by decide +kernel)) ggX3_borrow_X3_isMember
set_option maxRecDepth 20000 in
theorem ggX3_borrow_X3_holds : GoodIn wsX3_borrow wsX3_holds := goodIn_r _ [14, 15, 69, 70, 71, 72, 73, 74, 75, 76, 77, 78, 79, 80, 81, 82] (by decide +kernel) (by decide +kernel)
set_option maxRecDepth 20000 in
theorem gX3_borrow_X3_holds : GoodIn wsX3_borrow (wsV RX3 94 RX3 yX3_holds wsX3_holds) := goodIn_app (goodIn_of _ (by decide +kernel)) ggX3_borrow_X3_holds
set_option maxRecDepth 20000 in
theorem ggX3_borrow_X3_save : GoodIn wsX3_borrow wsX3_save := goodIn_r _ [19, 20, 21, 22, 23, 3, 24, 25, 69, 70, 71, 72, 73, 74, 75, 76, 77, 78, 79, 80, 81, 82] (by decide +kernel) (by decide +kernel)
set_option maxRecDepth 20000 in
theorem gX3_borrow_X3_save : GoodIn wsX3_borrow (wsV RX3 101 RX3 yX3_save wsX3_save) := goodIn_app (goodIn_of _ (by decide +kernel)) ggX3_borrow_X3_save
set_option maxRecDepth 20000 in
theorem ggX3_borrow_X3_lends : GoodIn wsX3_borrow wsX3_lends := goodIn_r _ [29, 25, 30, 31, 32, 3, 33, 34, 35, 36, 37, 38, 39, 40, 41, 42, 43, 44, 45, 46, 47, 48, 49, 50, 51, 52, 53, 54, 55, 56, 57, 58, 59, 60, 61, 62, 63, 64, 65, 66, 67, 68, 69, 70, 71, 72, 73, 74, 75, 76, 77, 78, 79, 80, 81, 82] (by decide +kernel) (by decide +kernel)
set_option maxRecDepth 20000 in
theorem gX3_borrow_X3_lends : GoodIn wsX3_borrow (wsV RX3 119 RX3 yX3_lends wsX3_lends) := goodIn_app (goodIn_of _ (by decide +kernel)) ggX3_borrow_X3_lends
theorem dX3_borrow_0 : decode cX3_borrow 0 = .ok (.iload_n 2, 1) := by decide +kernel
theorem dX3_borrow_1 : decode cX3_borrow 1 = .ok (.invokestatic 91, 3) := by decide +kernel
theorem dX3_borrow_4 : decode cX3_borrow 4 = .ok (.ifCond .eq 17, 3) := by decide +kernel
theorem dX3_borrow_7 : decode cX3_borrow 7 = .ok (.iload_n 3, 1) := by decide +kernel
theorem dX3_borrow_8 : decode cX3_borrow 8 = .ok (.iconst 1, 1) := by decide +kernel
theorem dX3_borrow_9 : decode cX3_borrow 9 = .ok (.bipush 52, 2) := by decide +kernel
theorem dX3_borrow_11 : decode cX3_borrow 11 = .ok (.invokestatic 27, 3) := by decide +kernel
theorem dX3_borrow_14 : decode cX3_borrow 14 = .ok (.ifCond .eq 7, 3) := by decide +kernel
theorem dX3_borrow_17 : decode cX3_borrow 17 = .ok (.iconst 1, 1) := by decide +kernel
theorem dX3_borrow_18 : decode cX3_borrow 18 = .ok (.goto 4, 3) := by decide +kernel
theorem dX3_borrow_21 : decode cX3_borrow 21 = .ok (.iconst 0, 1) := by decide +kernel
theorem dX3_borrow_22 : decode cX3_borrow 22 = .ok (.istore 4, 2) := by decide +kernel
theorem dX3_borrow_24 : decode cX3_borrow 24 = .ok (.aload_n 0, 1) := by decide +kernel
theorem dX3_borrow_25 : decode cX3_borrow 25 = .ok (.iload_n 1, 1) := by decide +kernel
theorem dX3_borrow_26 : decode cX3_borrow 26 = .ok (.invokestatic 87, 3) := by decide +kernel
theorem dX3_borrow_29 : decode cX3_borrow 29 = .ok (.ifCond .ne 7, 3) := by decide +kernel
theorem dX3_borrow_32 : decode cX3_borrow 32 = .ok (.iconst 1, 1) := by decide +kernel
theorem dX3_borrow_33 : decode cX3_borrow 33 = .ok (.goto 13, 3) := by decide +kernel
theorem dX3_borrow_36 : decode cX3_borrow 36 = .ok (.iload 4, 2) := by decide +kernel
theorem dX3_borrow_38 : decode cX3_borrow 38 = .ok (.ifCond .ne 7, 3) := by decide +kernel
theorem dX3_borrow_41 : decode cX3_borrow 41 = .ok (.iconst 2, 1) := by decide +kernel
theorem dX3_borrow_42 : decode cX3_borrow 42 = .ok (.goto 4, 3) := by decide +kernel
theorem dX3_borrow_45 : decode cX3_borrow 45 = .ok (.iconst 0, 1) := by decide +kernel
theorem dX3_borrow_46 : decode cX3_borrow 46 = .ok (.invokevirtual 94, 3) := by decide +kernel
theorem dX3_borrow_49 : decode cX3_borrow 49 = .ok (.ifCond .ne 5, 3) := by decide +kernel
theorem dX3_borrow_52 : decode cX3_borrow 52 = .ok (.iconst 0, 1) := by decide +kernel
theorem dX3_borrow_53 : decode cX3_borrow 53 = .ok (.ireturn, 1) := by decide +kernel
theorem dX3_borrow_54 : decode cX3_borrow 54 = .ok (.aload_n 0, 1) := by decide +kernel
theorem dX3_borrow_55 : decode cX3_borrow 55 = .ok (.invokevirtual 101, 3) := by decide +kernel
theorem dX3_borrow_58 : decode cX3_borrow 58 = .ok (.aload_n 0, 1) := by decide +kernel
theorem dX3_borrow_59 : decode cX3_borrow 59 = .ok (.iload_n 1, 1) := by decide +kernel
theorem dX3_borrow_60 : decode cX3_borrow 60 = .ok (.iload_n 2, 1) := by decide +kernel
theorem dX3_borrow_61 : decode cX3_borrow 61 = .ok (.iload_n 3, 1) := by decide +kernel
theorem dX3_borrow_62 : decode cX3_borrow 62 = .ok (.invokevirtual 119, 3) := by decide +kernel
theorem dX3_borrow_65 : decode cX3_borrow 65 = .ok (.ireturn, 1) := by decide +kernel
set_option maxRecDepth 20000 in
theorem ggX3_repay_X3_isDeed : GoodIn wsX3_repay wsX3_isDeed := goodIn_r _ [5, 6, 7, 4, 8, 9, 10, 11, 12, 13, 14, 15, 16, 17, 18, 19, 46, 47, 48, 49, 50, 51, 52, 53, 54, 55, 56, 57, 58, 59] (by decide +kernel) (by decide +kernel)
set_option maxRecDepth 20000 in
theorem gX3_repay_X3_isDeed : GoodIn wsX3_repay (wsV RX3 97 RX3 yX3_isDeed wsX3_isDeed) := goodIn_app (goodIn_of _ (by decide +kernel)) ggX3_repay_X3_isDeed
set_option maxRecDepth 20000 in
theorem ggX3_repay_X3_save : GoodIn wsX3_repay wsX3_save := goodIn_r _ [23, 24, 25, 26, 27, 4, 28, 29, 46, 47, 48, 49, 50, 51, 52, 53, 54, 55, 56, 57, 58, 59] (by decide +kernel) (by decide +kernel)
set_option maxRecDepth 20000 in
theorem gX3_repay_X3_save : GoodIn wsX3_repay (wsV RX3 101 RX3 yX3_save wsX3_save) := goodIn_app (goodIn_of _ (by decide +kernel)) ggX3_repay_X3_save
set_option maxRecDepth 20000 in
theorem ggX3_repay_X3_repays : GoodIn wsX3_repay wsX3_repays := goodIn_r _ [33, 29, 34, 35, 36, 4, 37, 38, 39, 40, 41, 42, 43, 44, 45, 46, 47, 48, 49, 50, 51, 52, 53, 54, 55, 56, 57, 58, 59] (by decide +kernel) (by decide +kernel)
set_option maxRecDepth 20000 in
theorem gX3_repay_X3_repays : GoodIn wsX3_repay (wsV RX3 122 RX3 yX3_repays wsX3_repays) := goodIn_app (goodIn_of _ (by decide +kernel)) ggX3_repay_X3_repays
theorem dX3_repay_0 : decode cX3_repay 0 = .ok (.aload_n 0, 1) := by decide +kernel
theorem dX3_repay_1 : decode cX3_repay 1 = .ok (.iload_n 1, 1) := by decide +kernel
theorem dX3_repay_2 : decode cX3_repay 2 = .ok (.iload_n 2, 1) := by decide +kernel
theorem dX3_repay_3 : decode cX3_repay 3 = .ok (.invokevirtual 97, 3) := by decide +kernel
theorem dX3_repay_6 : decode cX3_repay 6 = .ok (.ifCond .ne 5, 3) := by decide +kernel
theorem dX3_repay_9 : decode cX3_repay 9 = .ok (.iconst 0, 1) := by decide +kernel
theorem dX3_repay_10 : decode cX3_repay 10 = .ok (.ireturn, 1) := by decide +kernel
theorem dX3_repay_11 : decode cX3_repay 11 = .ok (.aload_n 0, 1) := by decide +kernel
theorem dX3_repay_12 : decode cX3_repay 12 = .ok (.invokevirtual 101, 3) := by decide +kernel
theorem dX3_repay_15 : decode cX3_repay 15 = .ok (.aload_n 0, 1) := by decide +kernel
theorem dX3_repay_16 : decode cX3_repay 16 = .ok (.iload_n 1, 1) := by decide +kernel
theorem dX3_repay_17 : decode cX3_repay 17 = .ok (.iload_n 2, 1) := by decide +kernel
theorem dX3_repay_18 : decode cX3_repay 18 = .ok (.invokevirtual 122, 3) := by decide +kernel
theorem dX3_repay_21 : decode cX3_repay 21 = .ok (.ireturn, 1) := by decide +kernel
set_option maxRecDepth 20000 in
theorem ggX3_week_X3_holds : GoodIn wsX3_week wsX3_holds := goodIn_r _ [6, 7, 49, 50, 51, 52, 53, 54, 55, 56, 57, 58, 59, 60, 61, 62] (by decide +kernel) (by decide +kernel)
set_option maxRecDepth 20000 in
theorem gX3_week_X3_holds : GoodIn wsX3_week (wsV RX3 94 RX3 yX3_holds wsX3_holds) := goodIn_app (goodIn_of _ (by decide +kernel)) ggX3_week_X3_holds
set_option maxRecDepth 20000 in
theorem ggX3_week_X3_save : GoodIn wsX3_week wsX3_save := goodIn_r _ [11, 12, 13, 14, 15, 5, 16, 1, 49, 50, 51, 52, 53, 54, 55, 56, 57, 58, 59, 60, 61, 62] (by decide +kernel) (by decide +kernel)
set_option maxRecDepth 20000 in
theorem gX3_week_X3_save : GoodIn wsX3_week (wsV RX3 101 RX3 yX3_save wsX3_save) := goodIn_app (goodIn_of _ (by decide +kernel)) ggX3_week_X3_save
set_option maxRecDepth 20000 in
theorem ggX3_week_X3_endsWeek : GoodIn wsX3_week wsX3_endsWeek := goodIn_r _ [20, 1, 21, 22, 23, 5, 24, 25, 26, 27, 28, 29, 30, 31, 32, 33, 34, 35, 36, 37, 38, 39, 40, 41, 42, 43, 44, 45, 46, 47, 48, 49, 50, 51, 52, 53, 54, 55, 56, 57, 58, 59, 60, 61, 62] (by decide +kernel) (by decide +kernel)
set_option maxRecDepth 20000 in
theorem gX3_week_X3_endsWeek : GoodIn wsX3_week (wsV RX3 125 RX3 yX3_endsWeek wsX3_endsWeek) := goodIn_app (goodIn_of _ (by decide +kernel)) ggX3_week_X3_endsWeek
theorem dX3_week_0 : decode cX3_week 0 = .ok (.aload_n 0, 1) := by decide +kernel
theorem dX3_week_1 : decode cX3_week 1 = .ok (.aload_n 0, 1) := by decide +kernel
theorem dX3_week_2 : decode cX3_week 2 = .ok (.getfield 7, 3) := by decide +kernel
theorem dX3_week_5 : decode cX3_week 5 = .ok (.iconst 4, 1) := by decide +kernel
theorem dX3_week_6 : decode cX3_week 6 = .ok (.iaload, 1) := by decide +kernel
theorem dX3_week_7 : decode cX3_week 7 = .ok (.sipush 9999, 3) := by decide +kernel
theorem dX3_week_10 : decode cX3_week 10 = .ok (.if_icmp .ne 7, 3) := by decide +kernel
theorem dX3_week_13 : decode cX3_week 13 = .ok (.iconst 1, 1) := by decide +kernel
theorem dX3_week_14 : decode cX3_week 14 = .ok (.goto 4, 3) := by decide +kernel
theorem dX3_week_17 : decode cX3_week 17 = .ok (.iconst 0, 1) := by decide +kernel
theorem dX3_week_18 : decode cX3_week 18 = .ok (.invokevirtual 94, 3) := by decide +kernel
theorem dX3_week_21 : decode cX3_week 21 = .ok (.ifCond .ne 5, 3) := by decide +kernel
theorem dX3_week_24 : decode cX3_week 24 = .ok (.iconst 0, 1) := by decide +kernel
theorem dX3_week_25 : decode cX3_week 25 = .ok (.ireturn, 1) := by decide +kernel
theorem dX3_week_26 : decode cX3_week 26 = .ok (.aload_n 0, 1) := by decide +kernel
theorem dX3_week_27 : decode cX3_week 27 = .ok (.invokevirtual 101, 3) := by decide +kernel
theorem dX3_week_30 : decode cX3_week 30 = .ok (.aload_n 0, 1) := by decide +kernel
theorem dX3_week_31 : decode cX3_week 31 = .ok (.invokevirtual 125, 3) := by decide +kernel
theorem dX3_week_34 : decode cX3_week 34 = .ok (.ireturn, 1) := by decide +kernel
set_option maxRecDepth 20000 in
theorem ggX3_pass_X3_of : GoodIn wsX3_pass wsX3_of := goodIn_r _ [7, 1, 29, 30, 31, 32, 33, 34, 35, 36, 37, 38, 39, 40, 41, 42] (by decide +kernel) (by decide +kernel)
set_option maxRecDepth 20000 in
theorem gX3_pass_X3_of : GoodIn wsX3_pass (wsV RX3 35 RX3 yX3_of wsX3_of) := goodIn_app (goodIn_of _ (by decide +kernel)) ggX3_pass_X3_of
set_option maxRecDepth 20000 in
theorem ggX3_pass_X3_in : GoodIn wsX3_pass wsX3_in := goodIn_r _ [10] (by decide +kernel) (by decide +kernel)
set_option maxRecDepth 20000 in
theorem gX3_pass_X3_in : GoodIn wsX3_pass (va_wsS RX3 27 yX3_in wsX3_in) := goodIn_app (goodIn_of _ (by decide +kernel)) ggX3_pass_X3_in
set_option maxRecDepth 20000 in
theorem ggX3_pass_X3_holds : GoodIn wsX3_pass wsX3_holds := goodIn_r _ [14, 15, 29, 30, 31, 32, 33, 34, 35, 36, 37, 38, 39, 40, 41, 42] (by decide +kernel) (by decide +kernel)
set_option maxRecDepth 20000 in
theorem gX3_pass_X3_holds : GoodIn wsX3_pass (wsV RX3 94 RX3 yX3_holds wsX3_holds) := goodIn_app (goodIn_of _ (by decide +kernel)) ggX3_pass_X3_holds
set_option maxRecDepth 20000 in
theorem ggX3_pass_X3_save : GoodIn wsX3_pass wsX3_save := goodIn_r _ [19, 20, 21, 22, 23, 6, 24, 1, 29, 30, 31, 32, 33, 34, 35, 36, 37, 38, 39, 40, 41, 42] (by decide +kernel) (by decide +kernel)
set_option maxRecDepth 20000 in
theorem gX3_pass_X3_save : GoodIn wsX3_pass (wsV RX3 101 RX3 yX3_save wsX3_save) := goodIn_app (goodIn_of _ (by decide +kernel)) ggX3_pass_X3_save
set_option maxRecDepth 20000 in
theorem ggX3_pass_X3_adds : GoodIn wsX3_pass wsX3_adds := goodIn_r _ [28, 1, 29, 30, 31, 32, 33, 34, 35, 36, 37, 38, 39, 40, 41, 42] (by decide +kernel) (by decide +kernel)
set_option maxRecDepth 20000 in
theorem gX3_pass_X3_adds : GoodIn wsX3_pass (wsV RX3 58 RX3 yX3_adds wsX3_adds) := goodIn_app (goodIn_of _ (by decide +kernel)) ggX3_pass_X3_adds
theorem dX3_pass_0 : decode cX3_pass 0 = .ok (.aload_n 0, 1) := by decide +kernel
theorem dX3_pass_1 : decode cX3_pass 1 = .ok (.getfield 7, 3) := by decide +kernel
theorem dX3_pass_4 : decode cX3_pass 4 = .ok (.iconst 5, 1) := by decide +kernel
theorem dX3_pass_5 : decode cX3_pass 5 = .ok (.iaload, 1) := by decide +kernel
theorem dX3_pass_6 : decode cX3_pass 6 = .ok (.iload_n 1, 1) := by decide +kernel
theorem dX3_pass_7 : decode cX3_pass 7 = .ok (.iadd, 1) := by decide +kernel
theorem dX3_pass_8 : decode cX3_pass 8 = .ok (.sipush 9999, 3) := by decide +kernel
theorem dX3_pass_11 : decode cX3_pass 11 = .ok (.if_icmp .le 7, 3) := by decide +kernel
theorem dX3_pass_14 : decode cX3_pass 14 = .ok (.iconst 1, 1) := by decide +kernel
theorem dX3_pass_15 : decode cX3_pass 15 = .ok (.goto 4, 3) := by decide +kernel
theorem dX3_pass_18 : decode cX3_pass 18 = .ok (.iconst 0, 1) := by decide +kernel
theorem dX3_pass_19 : decode cX3_pass 19 = .ok (.istore_n 2, 1) := by decide +kernel
theorem dX3_pass_20 : decode cX3_pass 20 = .ok (.iconst 0, 1) := by decide +kernel
theorem dX3_pass_21 : decode cX3_pass 21 = .ok (.istore_n 3, 1) := by decide +kernel
theorem dX3_pass_22 : decode cX3_pass 22 = .ok (.iload_n 3, 1) := by decide +kernel
theorem dX3_pass_23 : decode cX3_pass 23 = .ok (.bipush 6, 2) := by decide +kernel
theorem dX3_pass_25 : decode cX3_pass 25 = .ok (.if_icmp .ge 44, 3) := by decide +kernel
theorem dX3_pass_28 : decode cX3_pass 28 = .ok (.iload_n 2, 1) := by decide +kernel
theorem dX3_pass_29 : decode cX3_pass 29 = .ok (.ifCond .ne 28, 3) := by decide +kernel
theorem dX3_pass_32 : decode cX3_pass 32 = .ok (.aload_n 0, 1) := by decide +kernel
theorem dX3_pass_33 : decode cX3_pass 33 = .ok (.iload_n 3, 1) := by decide +kernel
theorem dX3_pass_34 : decode cX3_pass 34 = .ok (.iconst 1, 1) := by decide +kernel
theorem dX3_pass_35 : decode cX3_pass 35 = .ok (.invokevirtual 35, 3) := by decide +kernel
theorem dX3_pass_38 : decode cX3_pass 38 = .ok (.i2l, 1) := by decide +kernel
theorem dX3_pass_39 : decode cX3_pass 39 = .ok (.aload_n 0, 1) := by decide +kernel
theorem dX3_pass_40 : decode cX3_pass 40 = .ok (.iload_n 3, 1) := by decide +kernel
theorem dX3_pass_41 : decode cX3_pass 41 = .ok (.iconst 0, 1) := by decide +kernel
theorem dX3_pass_42 : decode cX3_pass 42 = .ok (.invokevirtual 35, 3) := by decide +kernel
theorem dX3_pass_45 : decode cX3_pass 45 = .ok (.i2l, 1) := by decide +kernel
theorem dX3_pass_46 : decode cX3_pass 46 = .ok (.iload_n 1, 1) := by decide +kernel
theorem dX3_pass_47 : decode cX3_pass 47 = .ok (.i2l, 1) := by decide +kernel
theorem dX3_pass_48 : decode cX3_pass 48 = .ok (.lmul, 1) := by decide +kernel
theorem dX3_pass_49 : decode cX3_pass 49 = .ok (.ladd, 1) := by decide +kernel
theorem dX3_pass_50 : decode cX3_pass 50 = .ok (.ldc2_w 129, 3) := by decide +kernel
theorem dX3_pass_53 : decode cX3_pass 53 = .ok (.lcmp, 1) := by decide +kernel
theorem dX3_pass_54 : decode cX3_pass 54 = .ok (.ifCond .le 7, 3) := by decide +kernel
theorem dX3_pass_57 : decode cX3_pass 57 = .ok (.iconst 1, 1) := by decide +kernel
theorem dX3_pass_58 : decode cX3_pass 58 = .ok (.goto 4, 3) := by decide +kernel
theorem dX3_pass_61 : decode cX3_pass 61 = .ok (.iconst 0, 1) := by decide +kernel
theorem dX3_pass_62 : decode cX3_pass 62 = .ok (.istore_n 2, 1) := by decide +kernel
theorem dX3_pass_63 : decode cX3_pass 63 = .ok (.iinc 3 1, 3) := by decide +kernel
theorem dX3_pass_66 : decode cX3_pass 66 = .ok (.goto (-44), 3) := by decide +kernel
theorem dX3_pass_69 : decode cX3_pass 69 = .ok (.aload_n 0, 1) := by decide +kernel
theorem dX3_pass_70 : decode cX3_pass 70 = .ok (.iload_n 1, 1) := by decide +kernel
theorem dX3_pass_71 : decode cX3_pass 71 = .ok (.iconst 1, 1) := by decide +kernel
theorem dX3_pass_72 : decode cX3_pass 72 = .ok (.bipush 99, 2) := by decide +kernel
theorem dX3_pass_74 : decode cX3_pass 74 = .ok (.invokestatic 27, 3) := by decide +kernel
theorem dX3_pass_77 : decode cX3_pass 77 = .ok (.ifCond .ne 7, 3) := by decide +kernel
theorem dX3_pass_80 : decode cX3_pass 80 = .ok (.iconst 1, 1) := by decide +kernel
theorem dX3_pass_81 : decode cX3_pass 81 = .ok (.goto 12, 3) := by decide +kernel
theorem dX3_pass_84 : decode cX3_pass 84 = .ok (.iload_n 2, 1) := by decide +kernel
theorem dX3_pass_85 : decode cX3_pass 85 = .ok (.ifCond .eq 7, 3) := by decide +kernel
theorem dX3_pass_88 : decode cX3_pass 88 = .ok (.iconst 2, 1) := by decide +kernel
theorem dX3_pass_89 : decode cX3_pass 89 = .ok (.goto 4, 3) := by decide +kernel
theorem dX3_pass_92 : decode cX3_pass 92 = .ok (.iconst 0, 1) := by decide +kernel
theorem dX3_pass_93 : decode cX3_pass 93 = .ok (.invokevirtual 94, 3) := by decide +kernel
theorem dX3_pass_96 : decode cX3_pass 96 = .ok (.ifCond .ne 5, 3) := by decide +kernel
theorem dX3_pass_99 : decode cX3_pass 99 = .ok (.iconst 0, 1) := by decide +kernel
theorem dX3_pass_100 : decode cX3_pass 100 = .ok (.ireturn, 1) := by decide +kernel
theorem dX3_pass_101 : decode cX3_pass 101 = .ok (.aload_n 0, 1) := by decide +kernel
theorem dX3_pass_102 : decode cX3_pass 102 = .ok (.invokevirtual 101, 3) := by decide +kernel
theorem dX3_pass_105 : decode cX3_pass 105 = .ok (.iconst 0, 1) := by decide +kernel
theorem dX3_pass_106 : decode cX3_pass 106 = .ok (.istore_n 3, 1) := by decide +kernel
theorem dX3_pass_107 : decode cX3_pass 107 = .ok (.iload_n 3, 1) := by decide +kernel
theorem dX3_pass_108 : decode cX3_pass 108 = .ok (.bipush 6, 2) := by decide +kernel
theorem dX3_pass_110 : decode cX3_pass 110 = .ok (.if_icmp .ge 23, 3) := by decide +kernel
theorem dX3_pass_113 : decode cX3_pass 113 = .ok (.aload_n 0, 1) := by decide +kernel
theorem dX3_pass_114 : decode cX3_pass 114 = .ok (.iload_n 3, 1) := by decide +kernel
theorem dX3_pass_115 : decode cX3_pass 115 = .ok (.iconst 1, 1) := by decide +kernel
theorem dX3_pass_116 : decode cX3_pass 116 = .ok (.aload_n 0, 1) := by decide +kernel
theorem dX3_pass_117 : decode cX3_pass 117 = .ok (.iload_n 3, 1) := by decide +kernel
theorem dX3_pass_118 : decode cX3_pass 118 = .ok (.iconst 0, 1) := by decide +kernel
theorem dX3_pass_119 : decode cX3_pass 119 = .ok (.invokevirtual 35, 3) := by decide +kernel
theorem dX3_pass_122 : decode cX3_pass 122 = .ok (.iload_n 1, 1) := by decide +kernel
theorem dX3_pass_123 : decode cX3_pass 123 = .ok (.imul, 1) := by decide +kernel
theorem dX3_pass_124 : decode cX3_pass 124 = .ok (.invokevirtual 58, 3) := by decide +kernel
theorem dX3_pass_127 : decode cX3_pass 127 = .ok (.iinc 3 1, 3) := by decide +kernel
theorem dX3_pass_130 : decode cX3_pass 130 = .ok (.goto (-23), 3) := by decide +kernel
theorem dX3_pass_133 : decode cX3_pass 133 = .ok (.aload_n 0, 1) := by decide +kernel
theorem dX3_pass_134 : decode cX3_pass 134 = .ok (.getfield 7, 3) := by decide +kernel
theorem dX3_pass_137 : decode cX3_pass 137 = .ok (.iconst 5, 1) := by decide +kernel
theorem dX3_pass_138 : decode cX3_pass 138 = .ok (.dup2, 1) := by decide +kernel
theorem dX3_pass_139 : decode cX3_pass 139 = .ok (.iaload, 1) := by decide +kernel
theorem dX3_pass_140 : decode cX3_pass 140 = .ok (.iload_n 1, 1) := by decide +kernel
theorem dX3_pass_141 : decode cX3_pass 141 = .ok (.iadd, 1) := by decide +kernel
theorem dX3_pass_142 : decode cX3_pass 142 = .ok (.iastore, 1) := by decide +kernel
theorem dX3_pass_143 : decode cX3_pass 143 = .ok (.aload_n 0, 1) := by decide +kernel
theorem dX3_pass_144 : decode cX3_pass 144 = .ok (.getfield 7, 3) := by decide +kernel
theorem dX3_pass_147 : decode cX3_pass 147 = .ok (.iconst 5, 1) := by decide +kernel
theorem dX3_pass_148 : decode cX3_pass 148 = .ok (.iaload, 1) := by decide +kernel
theorem dX3_pass_149 : decode cX3_pass 149 = .ok (.ireturn, 1) := by decide +kernel
set_option maxRecDepth 20000 in
theorem ggX3_dividend_X3_save : GoodIn wsX3_dividend wsX3_save := goodIn_r _ [7, 8, 9, 10, 11, 6, 12, 2, 33, 34, 35, 36, 37, 38, 39, 40, 41, 42, 43, 44, 45, 46] (by decide +kernel) (by decide +kernel)
set_option maxRecDepth 20000 in
theorem gX3_dividend_X3_save : GoodIn wsX3_dividend (wsV RX3 101 RX3 yX3_save wsX3_save) := goodIn_app (goodIn_of _ (by decide +kernel)) ggX3_dividend_X3_save
set_option maxRecDepth 20000 in
theorem ggX3_dividend_X3_allDays : GoodIn wsX3_dividend wsX3_allDays := goodIn_r _ [16, 17, 18, 19, 6, 20, 2, 33, 34, 35, 36, 37, 38, 39, 40, 41, 42, 43, 44, 45, 46] (by decide +kernel) (by decide +kernel)
set_option maxRecDepth 20000 in
theorem gX3_dividend_X3_allDays : GoodIn wsX3_dividend (wsV RX3 76 RX3 yX3_allDays wsX3_allDays) := goodIn_app (goodIn_of _ (by decide +kernel)) ggX3_dividend_X3_allDays
set_option maxRecDepth 20000 in
theorem ggX3_dividend_X3_refuses : GoodIn wsX3_dividend wsX3_refuses := goodIn_r _ [24, 2, 33, 34, 35, 36, 37, 38, 39, 40, 41, 42, 43, 44, 45, 46] (by decide +kernel) (by decide +kernel)
set_option maxRecDepth 20000 in
theorem gX3_dividend_X3_refuses : GoodIn wsX3_dividend (wsV RX3 55 RX3 yX3_refuses wsX3_refuses) := goodIn_app (goodIn_of _ (by decide +kernel)) ggX3_dividend_X3_refuses
set_option maxRecDepth 20000 in
theorem ggX3_dividend_X3_share : GoodIn wsX3_dividend wsX3_share := goodIn_r _ [28, 2, 13, 14, 15, 6, 16, 17, 18, 19, 20, 33, 34, 35, 36, 37, 38, 39, 40, 41, 42, 43, 44, 45, 46] (by decide +kernel) (by decide +kernel)
set_option maxRecDepth 20000 in
theorem gX3_dividend_X3_share : GoodIn wsX3_dividend (wsV RX3 131 RX3 yX3_share wsX3_share) := goodIn_app (goodIn_of _ (by decide +kernel)) ggX3_dividend_X3_share
set_option maxRecDepth 20000 in
theorem ggX3_dividend_X3_adds : GoodIn wsX3_dividend wsX3_adds := goodIn_r _ [32, 2, 33, 34, 35, 36, 37, 38, 39, 40, 41, 42, 43, 44, 45, 46] (by decide +kernel) (by decide +kernel)
set_option maxRecDepth 20000 in
theorem gX3_dividend_X3_adds : GoodIn wsX3_dividend (wsV RX3 58 RX3 yX3_adds wsX3_adds) := goodIn_app (goodIn_of _ (by decide +kernel)) ggX3_dividend_X3_adds
set_option maxRecDepth 20000 in
theorem ggX3_dividend_X3_of : GoodIn wsX3_dividend wsX3_of := goodIn_r _ [20, 2, 33, 34, 35, 36, 37, 38, 39, 40, 41, 42, 43, 44, 45, 46] (by decide +kernel) (by decide +kernel)
set_option maxRecDepth 20000 in
theorem gX3_dividend_X3_of : GoodIn wsX3_dividend (wsV RX3 35 RX3 yX3_of wsX3_of) := goodIn_app (goodIn_of _ (by decide +kernel)) ggX3_dividend_X3_of
theorem dX3_dividend_0 : decode cX3_dividend 0 = .ok (.aload_n 0, 1) := by decide +kernel
theorem dX3_dividend_1 : decode cX3_dividend 1 = .ok (.iconst 0, 1) := by decide +kernel
theorem dX3_dividend_2 : decode cX3_dividend 2 = .ok (.putfield 23, 3) := by decide +kernel
theorem dX3_dividend_5 : decode cX3_dividend 5 = .ok (.aload_n 0, 1) := by decide +kernel
theorem dX3_dividend_6 : decode cX3_dividend 6 = .ok (.invokevirtual 101, 3) := by decide +kernel
theorem dX3_dividend_9 : decode cX3_dividend 9 = .ok (.aload_n 0, 1) := by decide +kernel
theorem dX3_dividend_10 : decode cX3_dividend 10 = .ok (.invokevirtual 76, 3) := by decide +kernel
theorem dX3_dividend_13 : decode cX3_dividend 13 = .ok (.lconst 0, 1) := by decide +kernel
theorem dX3_dividend_14 : decode cX3_dividend 14 = .ok (.lcmp, 1) := by decide +kernel
theorem dX3_dividend_15 : decode cX3_dividend 15 = .ok (.ifCond .ne 9, 3) := by decide +kernel
theorem dX3_dividend_18 : decode cX3_dividend 18 = .ok (.aload_n 0, 1) := by decide +kernel
theorem dX3_dividend_19 : decode cX3_dividend 19 = .ok (.iconst (-1), 1) := by decide +kernel
theorem dX3_dividend_20 : decode cX3_dividend 20 = .ok (.invokevirtual 55, 3) := by decide +kernel
theorem dX3_dividend_23 : decode cX3_dividend 23 = .ok (.ireturn, 1) := by decide +kernel
theorem dX3_dividend_24 : decode cX3_dividend 24 = .ok (.iconst 0, 1) := by decide +kernel
theorem dX3_dividend_25 : decode cX3_dividend 25 = .ok (.istore_n 1, 1) := by decide +kernel
theorem dX3_dividend_26 : decode cX3_dividend 26 = .ok (.iconst 0, 1) := by decide +kernel
theorem dX3_dividend_27 : decode cX3_dividend 27 = .ok (.istore_n 2, 1) := by decide +kernel
theorem dX3_dividend_28 : decode cX3_dividend 28 = .ok (.iload_n 2, 1) := by decide +kernel
theorem dX3_dividend_29 : decode cX3_dividend 29 = .ok (.bipush 6, 2) := by decide +kernel
theorem dX3_dividend_31 : decode cX3_dividend 31 = .ok (.if_icmp .ge 28, 3) := by decide +kernel
theorem dX3_dividend_34 : decode cX3_dividend 34 = .ok (.iload_n 1, 1) := by decide +kernel
theorem dX3_dividend_35 : decode cX3_dividend 35 = .ok (.aload_n 0, 1) := by decide +kernel
theorem dX3_dividend_36 : decode cX3_dividend 36 = .ok (.iload_n 2, 1) := by decide +kernel
theorem dX3_dividend_37 : decode cX3_dividend 37 = .ok (.invokevirtual 131, 3) := by decide +kernel
theorem dX3_dividend_40 : decode cX3_dividend 40 = .ok (.iadd, 1) := by decide +kernel
theorem dX3_dividend_41 : decode cX3_dividend 41 = .ok (.istore_n 1, 1) := by decide +kernel
theorem dX3_dividend_42 : decode cX3_dividend 42 = .ok (.aload_n 0, 1) := by decide +kernel
theorem dX3_dividend_43 : decode cX3_dividend 43 = .ok (.iload_n 2, 1) := by decide +kernel
theorem dX3_dividend_44 : decode cX3_dividend 44 = .ok (.iconst 0, 1) := by decide +kernel
theorem dX3_dividend_45 : decode cX3_dividend 45 = .ok (.aload_n 0, 1) := by decide +kernel
theorem dX3_dividend_46 : decode cX3_dividend 46 = .ok (.iload_n 2, 1) := by decide +kernel
theorem dX3_dividend_47 : decode cX3_dividend 47 = .ok (.invokevirtual 131, 3) := by decide +kernel
theorem dX3_dividend_50 : decode cX3_dividend 50 = .ok (.invokevirtual 58, 3) := by decide +kernel
theorem dX3_dividend_53 : decode cX3_dividend 53 = .ok (.iinc 2 1, 3) := by decide +kernel
theorem dX3_dividend_56 : decode cX3_dividend 56 = .ok (.goto (-28), 3) := by decide +kernel
theorem dX3_dividend_59 : decode cX3_dividend 59 = .ok (.iconst 0, 1) := by decide +kernel
theorem dX3_dividend_60 : decode cX3_dividend 60 = .ok (.istore_n 2, 1) := by decide +kernel
theorem dX3_dividend_61 : decode cX3_dividend 61 = .ok (.iload_n 2, 1) := by decide +kernel
theorem dX3_dividend_62 : decode cX3_dividend 62 = .ok (.bipush 6, 2) := by decide +kernel
theorem dX3_dividend_64 : decode cX3_dividend 64 = .ok (.if_icmp .ge 22, 3) := by decide +kernel
theorem dX3_dividend_67 : decode cX3_dividend 67 = .ok (.aload_n 0, 1) := by decide +kernel
theorem dX3_dividend_68 : decode cX3_dividend 68 = .ok (.iload_n 2, 1) := by decide +kernel
theorem dX3_dividend_69 : decode cX3_dividend 69 = .ok (.iconst 1, 1) := by decide +kernel
theorem dX3_dividend_70 : decode cX3_dividend 70 = .ok (.aload_n 0, 1) := by decide +kernel
theorem dX3_dividend_71 : decode cX3_dividend 71 = .ok (.iload_n 2, 1) := by decide +kernel
theorem dX3_dividend_72 : decode cX3_dividend 72 = .ok (.iconst 1, 1) := by decide +kernel
theorem dX3_dividend_73 : decode cX3_dividend 73 = .ok (.invokevirtual 35, 3) := by decide +kernel
theorem dX3_dividend_76 : decode cX3_dividend 76 = .ok (.ineg, 1) := by decide +kernel
theorem dX3_dividend_77 : decode cX3_dividend 77 = .ok (.invokevirtual 58, 3) := by decide +kernel
theorem dX3_dividend_80 : decode cX3_dividend 80 = .ok (.iinc 2 1, 3) := by decide +kernel
theorem dX3_dividend_83 : decode cX3_dividend 83 = .ok (.goto (-22), 3) := by decide +kernel
theorem dX3_dividend_86 : decode cX3_dividend 86 = .ok (.aload_n 0, 1) := by decide +kernel
theorem dX3_dividend_87 : decode cX3_dividend 87 = .ok (.getfield 7, 3) := by decide +kernel
theorem dX3_dividend_90 : decode cX3_dividend 90 = .ok (.iconst 1, 1) := by decide +kernel
theorem dX3_dividend_91 : decode cX3_dividend 91 = .ok (.dup2, 1) := by decide +kernel
theorem dX3_dividend_92 : decode cX3_dividend 92 = .ok (.iaload, 1) := by decide +kernel
theorem dX3_dividend_93 : decode cX3_dividend 93 = .ok (.iload_n 1, 1) := by decide +kernel
theorem dX3_dividend_94 : decode cX3_dividend 94 = .ok (.isub, 1) := by decide +kernel
theorem dX3_dividend_95 : decode cX3_dividend 95 = .ok (.iastore, 1) := by decide +kernel
theorem dX3_dividend_96 : decode cX3_dividend 96 = .ok (.aload_n 0, 1) := by decide +kernel
theorem dX3_dividend_97 : decode cX3_dividend 97 = .ok (.getfield 7, 3) := by decide +kernel
theorem dX3_dividend_100 : decode cX3_dividend 100 = .ok (.bipush 7, 2) := by decide +kernel
theorem dX3_dividend_102 : decode cX3_dividend 102 = .ok (.dup2, 1) := by decide +kernel
theorem dX3_dividend_103 : decode cX3_dividend 103 = .ok (.iaload, 1) := by decide +kernel
theorem dX3_dividend_104 : decode cX3_dividend 104 = .ok (.iload_n 1, 1) := by decide +kernel
theorem dX3_dividend_105 : decode cX3_dividend 105 = .ok (.iadd, 1) := by decide +kernel
theorem dX3_dividend_106 : decode cX3_dividend 106 = .ok (.iastore, 1) := by decide +kernel
theorem dX3_dividend_107 : decode cX3_dividend 107 = .ok (.iload_n 1, 1) := by decide +kernel
theorem dX3_dividend_108 : decode cX3_dividend 108 = .ok (.ireturn, 1) := by decide +kernel
set_option maxRecDepth 20000 in
theorem ggX3_set_X3_in : GoodIn wsX3_set wsX3_in := goodIn_r _ [5] (by decide +kernel) (by decide +kernel)
set_option maxRecDepth 20000 in
theorem gX3_set_X3_in : GoodIn wsX3_set (va_wsS RX3 27 yX3_in wsX3_in) := goodIn_app (goodIn_of _ (by decide +kernel)) ggX3_set_X3_in
set_option maxRecDepth 20000 in
theorem ggX3_set_X3_holds : GoodIn wsX3_set wsX3_holds := goodIn_r _ [9, 10, 20, 21, 22, 23, 24, 25, 26, 27, 28, 29, 30, 31, 32, 33] (by decide +kernel) (by decide +kernel)
set_option maxRecDepth 20000 in
theorem gX3_set_X3_holds : GoodIn wsX3_set (wsV RX3 94 RX3 yX3_holds wsX3_holds) := goodIn_app (goodIn_of _ (by decide +kernel)) ggX3_set_X3_holds
set_option maxRecDepth 20000 in
theorem ggX3_set_X3_save : GoodIn wsX3_set wsX3_save := goodIn_r _ [14, 15, 16, 17, 18, 4, 19, 1, 20, 21, 22, 23, 24, 25, 26, 27, 28, 29, 30, 31, 32, 33] (by decide +kernel) (by decide +kernel)
set_option maxRecDepth 20000 in
theorem gX3_set_X3_save : GoodIn wsX3_set (wsV RX3 101 RX3 yX3_save wsX3_save) := goodIn_app (goodIn_of _ (by decide +kernel)) ggX3_set_X3_save
theorem dX3_set_0 : decode cX3_set 0 = .ok (.aload_n 0, 1) := by decide +kernel
theorem dX3_set_1 : decode cX3_set 1 = .ok (.iload_n 1, 1) := by decide +kernel
theorem dX3_set_2 : decode cX3_set 2 = .ok (.iconst 0, 1) := by decide +kernel
theorem dX3_set_3 : decode cX3_set 3 = .ok (.iconst 1, 1) := by decide +kernel
theorem dX3_set_4 : decode cX3_set 4 = .ok (.invokestatic 27, 3) := by decide +kernel
theorem dX3_set_7 : decode cX3_set 7 = .ok (.ifCond .ne 7, 3) := by decide +kernel
theorem dX3_set_10 : decode cX3_set 10 = .ok (.iconst 1, 1) := by decide +kernel
theorem dX3_set_11 : decode cX3_set 11 = .ok (.goto 26, 3) := by decide +kernel
theorem dX3_set_14 : decode cX3_set 14 = .ok (.iload_n 2, 1) := by decide +kernel
theorem dX3_set_15 : decode cX3_set 15 = .ok (.iload_n 1, 1) := by decide +kernel
theorem dX3_set_16 : decode cX3_set 16 = .ok (.iload_n 1, 1) := by decide +kernel
theorem dX3_set_17 : decode cX3_set 17 = .ok (.ifCond .ne 8, 3) := by decide +kernel
theorem dX3_set_20 : decode cX3_set 20 = .ok (.bipush 100, 2) := by decide +kernel
theorem dX3_set_22 : decode cX3_set 22 = .ok (.goto 4, 3) := by decide +kernel
theorem dX3_set_25 : decode cX3_set 25 = .ok (.iconst 5, 1) := by decide +kernel
theorem dX3_set_26 : decode cX3_set 26 = .ok (.invokestatic 27, 3) := by decide +kernel
theorem dX3_set_29 : decode cX3_set 29 = .ok (.ifCond .ne 7, 3) := by decide +kernel
theorem dX3_set_32 : decode cX3_set 32 = .ok (.iconst 2, 1) := by decide +kernel
theorem dX3_set_33 : decode cX3_set 33 = .ok (.goto 4, 3) := by decide +kernel
theorem dX3_set_36 : decode cX3_set 36 = .ok (.iconst 0, 1) := by decide +kernel
theorem dX3_set_37 : decode cX3_set 37 = .ok (.invokevirtual 94, 3) := by decide +kernel
theorem dX3_set_40 : decode cX3_set 40 = .ok (.ifCond .ne 5, 3) := by decide +kernel
theorem dX3_set_43 : decode cX3_set 43 = .ok (.iconst 0, 1) := by decide +kernel
theorem dX3_set_44 : decode cX3_set 44 = .ok (.ireturn, 1) := by decide +kernel
theorem dX3_set_45 : decode cX3_set 45 = .ok (.aload_n 0, 1) := by decide +kernel
theorem dX3_set_46 : decode cX3_set 46 = .ok (.invokevirtual 101, 3) := by decide +kernel
theorem dX3_set_49 : decode cX3_set 49 = .ok (.aload_n 0, 1) := by decide +kernel
theorem dX3_set_50 : decode cX3_set 50 = .ok (.getfield 7, 3) := by decide +kernel
theorem dX3_set_53 : decode cX3_set 53 = .ok (.bipush 8, 2) := by decide +kernel
theorem dX3_set_55 : decode cX3_set 55 = .ok (.iload_n 1, 1) := by decide +kernel
theorem dX3_set_56 : decode cX3_set 56 = .ok (.iadd, 1) := by decide +kernel
theorem dX3_set_57 : decode cX3_set 57 = .ok (.iaload, 1) := by decide +kernel
theorem dX3_set_58 : decode cX3_set 58 = .ok (.istore_n 3, 1) := by decide +kernel
theorem dX3_set_59 : decode cX3_set 59 = .ok (.aload_n 0, 1) := by decide +kernel
theorem dX3_set_60 : decode cX3_set 60 = .ok (.getfield 7, 3) := by decide +kernel
theorem dX3_set_63 : decode cX3_set 63 = .ok (.bipush 8, 2) := by decide +kernel
theorem dX3_set_65 : decode cX3_set 65 = .ok (.iload_n 1, 1) := by decide +kernel
theorem dX3_set_66 : decode cX3_set 66 = .ok (.iadd, 1) := by decide +kernel
theorem dX3_set_67 : decode cX3_set 67 = .ok (.iload_n 2, 1) := by decide +kernel
theorem dX3_set_68 : decode cX3_set 68 = .ok (.iastore, 1) := by decide +kernel
theorem dX3_set_69 : decode cX3_set 69 = .ok (.iload_n 3, 1) := by decide +kernel
theorem dX3_set_70 : decode cX3_set 70 = .ok (.ireturn, 1) := by decide +kernel
set_option maxRecDepth 20000 in
theorem ggX3_append_X3_in : GoodIn wsX3_append wsX3_in := goodIn_r _ [6] (by decide +kernel) (by decide +kernel)
set_option maxRecDepth 20000 in
theorem gX3_append_X3_in : GoodIn wsX3_append (va_wsS RX3 27 yX3_in wsX3_in) := goodIn_app (goodIn_of _ (by decide +kernel)) ggX3_append_X3_in
set_option maxRecDepth 20000 in
theorem ggX3_append_X3_holds : GoodIn wsX3_append wsX3_holds := goodIn_r _ [10, 11, 12, 13, 14, 15, 16, 17, 18, 19, 20, 21, 22, 23, 24, 25] (by decide +kernel) (by decide +kernel)
set_option maxRecDepth 20000 in
theorem gX3_append_X3_holds : GoodIn wsX3_append (wsV RX3 94 RX3 yX3_holds wsX3_holds) := goodIn_app (goodIn_of _ (by decide +kernel)) ggX3_append_X3_holds
theorem dX3_append_0 : decode cX3_append 0 = .ok (.aload_n 0, 1) := by decide +kernel
theorem dX3_append_1 : decode cX3_append 1 = .ok (.iload_n 1, 1) := by decide +kernel
theorem dX3_append_2 : decode cX3_append 2 = .ok (.bipush 33, 2) := by decide +kernel
theorem dX3_append_4 : decode cX3_append 4 = .ok (.bipush 126, 2) := by decide +kernel
theorem dX3_append_6 : decode cX3_append 6 = .ok (.invokestatic 27, 3) := by decide +kernel
theorem dX3_append_9 : decode cX3_append 9 = .ok (.ifCond .ne 7, 3) := by decide +kernel
theorem dX3_append_12 : decode cX3_append 12 = .ok (.iconst 1, 1) := by decide +kernel
theorem dX3_append_13 : decode cX3_append 13 = .ok (.goto 17, 3) := by decide +kernel
theorem dX3_append_16 : decode cX3_append 16 = .ok (.aload_n 0, 1) := by decide +kernel
theorem dX3_append_17 : decode cX3_append 17 = .ok (.getfield 134, 3) := by decide +kernel
theorem dX3_append_20 : decode cX3_append 20 = .ok (.bipush 60, 2) := by decide +kernel
theorem dX3_append_22 : decode cX3_append 22 = .ok (.if_icmp .ne 7, 3) := by decide +kernel
theorem dX3_append_25 : decode cX3_append 25 = .ok (.iconst 2, 1) := by decide +kernel
theorem dX3_append_26 : decode cX3_append 26 = .ok (.goto 4, 3) := by decide +kernel
theorem dX3_append_29 : decode cX3_append 29 = .ok (.iconst 0, 1) := by decide +kernel
theorem dX3_append_30 : decode cX3_append 30 = .ok (.invokevirtual 94, 3) := by decide +kernel
theorem dX3_append_33 : decode cX3_append 33 = .ok (.ifCond .ne 5, 3) := by decide +kernel
theorem dX3_append_36 : decode cX3_append 36 = .ok (.iconst 0, 1) := by decide +kernel
theorem dX3_append_37 : decode cX3_append 37 = .ok (.ireturn, 1) := by decide +kernel
theorem dX3_append_38 : decode cX3_append 38 = .ok (.aload_n 0, 1) := by decide +kernel
theorem dX3_append_39 : decode cX3_append 39 = .ok (.getfield 17, 3) := by decide +kernel
theorem dX3_append_42 : decode cX3_append 42 = .ok (.aload_n 0, 1) := by decide +kernel
theorem dX3_append_43 : decode cX3_append 43 = .ok (.getfield 134, 3) := by decide +kernel
theorem dX3_append_46 : decode cX3_append 46 = .ok (.iload_n 1, 1) := by decide +kernel
theorem dX3_append_47 : decode cX3_append 47 = .ok (.iastore, 1) := by decide +kernel
theorem dX3_append_48 : decode cX3_append 48 = .ok (.aload_n 0, 1) := by decide +kernel
theorem dX3_append_49 : decode cX3_append 49 = .ok (.dup, 1) := by decide +kernel
theorem dX3_append_50 : decode cX3_append 50 = .ok (.getfield 134, 3) := by decide +kernel
theorem dX3_append_53 : decode cX3_append 53 = .ok (.iconst 1, 1) := by decide +kernel
theorem dX3_append_54 : decode cX3_append 54 = .ok (.iadd, 1) := by decide +kernel
theorem dX3_append_55 : decode cX3_append 55 = .ok (.putfield 134, 3) := by decide +kernel
theorem dX3_append_58 : decode cX3_append 58 = .ok (.aload_n 0, 1) := by decide +kernel
theorem dX3_append_59 : decode cX3_append 59 = .ok (.getfield 134, 3) := by decide +kernel
theorem dX3_append_62 : decode cX3_append 62 = .ok (.ireturn, 1) := by decide +kernel
theorem dX3_clearBuffer_0 : decode cX3_clearBuffer 0 = .ok (.aload_n 0, 1) := by decide +kernel
theorem dX3_clearBuffer_1 : decode cX3_clearBuffer 1 = .ok (.iconst 0, 1) := by decide +kernel
theorem dX3_clearBuffer_2 : decode cX3_clearBuffer 2 = .ok (.putfield 23, 3) := by decide +kernel
theorem dX3_clearBuffer_5 : decode cX3_clearBuffer 5 = .ok (.aload_n 0, 1) := by decide +kernel
theorem dX3_clearBuffer_6 : decode cX3_clearBuffer 6 = .ok (.getfield 134, 3) := by decide +kernel
theorem dX3_clearBuffer_9 : decode cX3_clearBuffer 9 = .ok (.istore_n 1, 1) := by decide +kernel
theorem dX3_clearBuffer_10 : decode cX3_clearBuffer 10 = .ok (.aload_n 0, 1) := by decide +kernel
theorem dX3_clearBuffer_11 : decode cX3_clearBuffer 11 = .ok (.iconst 0, 1) := by decide +kernel
theorem dX3_clearBuffer_12 : decode cX3_clearBuffer 12 = .ok (.putfield 134, 3) := by decide +kernel
theorem dX3_clearBuffer_15 : decode cX3_clearBuffer 15 = .ok (.iload_n 1, 1) := by decide +kernel
theorem dX3_clearBuffer_16 : decode cX3_clearBuffer 16 = .ok (.ireturn, 1) := by decide +kernel
theorem dX3_sign_0 : decode cX3_sign 0 = .ok (.aload_n 0, 1) := by decide +kernel
theorem dX3_sign_1 : decode cX3_sign 1 = .ok (.getfield 137, 3) := by decide +kernel
theorem dX3_sign_4 : decode cX3_sign 4 = .ok (.aload_n 0, 1) := by decide +kernel
theorem dX3_sign_5 : decode cX3_sign 5 = .ok (.getfield 134, 3) := by decide +kernel
theorem dX3_sign_8 : decode cX3_sign 8 = .ok (.if_icmp .ge 15, 3) := by decide +kernel
theorem dX3_sign_11 : decode cX3_sign 11 = .ok (.aload_n 0, 1) := by decide +kernel
theorem dX3_sign_12 : decode cX3_sign 12 = .ok (.getfield 17, 3) := by decide +kernel
theorem dX3_sign_15 : decode cX3_sign 15 = .ok (.aload_n 0, 1) := by decide +kernel
theorem dX3_sign_16 : decode cX3_sign 16 = .ok (.getfield 137, 3) := by decide +kernel
theorem dX3_sign_19 : decode cX3_sign 19 = .ok (.iaload, 1) := by decide +kernel
theorem dX3_sign_20 : decode cX3_sign 20 = .ok (.goto 4, 3) := by decide +kernel
theorem dX3_sign_23 : decode cX3_sign 23 = .ok (.iconst 0, 1) := by decide +kernel
theorem dX3_sign_24 : decode cX3_sign 24 = .ok (.ireturn, 1) := by decide +kernel
set_option maxRecDepth 20000 in
theorem ggX3_takesSign_X3_sign : GoodIn wsX3_takesSign wsX3_sign := goodIn_r _ [6, 1, 7, 8, 9, 10, 11, 12, 13, 14, 15, 16, 17, 18, 19, 20, 21, 22] (by decide +kernel) (by decide +kernel)
set_option maxRecDepth 20000 in
theorem gX3_takesSign_X3_sign : GoodIn wsX3_takesSign (wsV RX3 140 RX3 yX3_sign wsX3_sign) := goodIn_app (goodIn_of _ (by decide +kernel)) ggX3_takesSign_X3_sign
theorem dX3_takesSign_0 : decode cX3_takesSign 0 = .ok (.aload_n 0, 1) := by decide +kernel
theorem dX3_takesSign_1 : decode cX3_takesSign 1 = .ok (.invokevirtual 140, 3) := by decide +kernel
theorem dX3_takesSign_4 : decode cX3_takesSign 4 = .ok (.iload_n 1, 1) := by decide +kernel
theorem dX3_takesSign_5 : decode cX3_takesSign 5 = .ok (.if_icmp .ne 7, 3) := by decide +kernel
theorem dX3_takesSign_8 : decode cX3_takesSign 8 = .ok (.iconst 1, 1) := by decide +kernel
theorem dX3_takesSign_9 : decode cX3_takesSign 9 = .ok (.goto 4, 3) := by decide +kernel
theorem dX3_takesSign_12 : decode cX3_takesSign 12 = .ok (.iconst 0, 1) := by decide +kernel
theorem dX3_takesSign_13 : decode cX3_takesSign 13 = .ok (.istore_n 2, 1) := by decide +kernel
theorem dX3_takesSign_14 : decode cX3_takesSign 14 = .ok (.aload_n 0, 1) := by decide +kernel
theorem dX3_takesSign_15 : decode cX3_takesSign 15 = .ok (.dup, 1) := by decide +kernel
theorem dX3_takesSign_16 : decode cX3_takesSign 16 = .ok (.getfield 137, 3) := by decide +kernel
theorem dX3_takesSign_19 : decode cX3_takesSign 19 = .ok (.iload_n 2, 1) := by decide +kernel
theorem dX3_takesSign_20 : decode cX3_takesSign 20 = .ok (.ifCond .eq 7, 3) := by decide +kernel
theorem dX3_takesSign_23 : decode cX3_takesSign 23 = .ok (.iconst 1, 1) := by decide +kernel
theorem dX3_takesSign_24 : decode cX3_takesSign 24 = .ok (.goto 4, 3) := by decide +kernel
theorem dX3_takesSign_27 : decode cX3_takesSign 27 = .ok (.iconst 0, 1) := by decide +kernel
theorem dX3_takesSign_28 : decode cX3_takesSign 28 = .ok (.iadd, 1) := by decide +kernel
theorem dX3_takesSign_29 : decode cX3_takesSign 29 = .ok (.putfield 137, 3) := by decide +kernel
theorem dX3_takesSign_32 : decode cX3_takesSign 32 = .ok (.iload_n 2, 1) := by decide +kernel
theorem dX3_takesSign_33 : decode cX3_takesSign 33 = .ok (.ireturn, 1) := by decide +kernel
set_option maxRecDepth 20000 in
theorem ggX3_readsMember_X3_sign : GoodIn wsX3_readsMember wsX3_sign := goodIn_r _ [6, 1, 7, 8, 12, 13, 14, 15, 16, 17, 18, 19, 20, 21, 22, 23, 24, 25] (by decide +kernel) (by decide +kernel)
set_option maxRecDepth 20000 in
theorem gX3_readsMember_X3_sign : GoodIn wsX3_readsMember (wsV RX3 140 RX3 yX3_sign wsX3_sign) := goodIn_app (goodIn_of _ (by decide +kernel)) ggX3_readsMember_X3_sign
set_option maxRecDepth 20000 in
theorem ggX3_readsMember_X3_in : GoodIn wsX3_readsMember wsX3_in := goodIn_r _ [11] (by decide +kernel) (by decide +kernel)
set_option maxRecDepth 20000 in
theorem gX3_readsMember_X3_in : GoodIn wsX3_readsMember (va_wsS RX3 27 yX3_in wsX3_in) := goodIn_app (goodIn_of _ (by decide +kernel)) ggX3_readsMember_X3_in
theorem dX3_readsMember_0 : decode cX3_readsMember 0 = .ok (.aload_n 0, 1) := by decide +kernel
theorem dX3_readsMember_1 : decode cX3_readsMember 1 = .ok (.invokevirtual 140, 3) := by decide +kernel
theorem dX3_readsMember_4 : decode cX3_readsMember 4 = .ok (.bipush 48, 2) := by decide +kernel
theorem dX3_readsMember_6 : decode cX3_readsMember 6 = .ok (.bipush 53, 2) := by decide +kernel
theorem dX3_readsMember_8 : decode cX3_readsMember 8 = .ok (.invokestatic 27, 3) := by decide +kernel
theorem dX3_readsMember_11 : decode cX3_readsMember 11 = .ok (.ifCond .eq 24, 3) := by decide +kernel
theorem dX3_readsMember_14 : decode cX3_readsMember 14 = .ok (.aload_n 0, 1) := by decide +kernel
theorem dX3_readsMember_15 : decode cX3_readsMember 15 = .ok (.invokevirtual 140, 3) := by decide +kernel
theorem dX3_readsMember_18 : decode cX3_readsMember 18 = .ok (.bipush 48, 2) := by decide +kernel
theorem dX3_readsMember_20 : decode cX3_readsMember 20 = .ok (.isub, 1) := by decide +kernel
theorem dX3_readsMember_21 : decode cX3_readsMember 21 = .ok (.iload_n 1, 1) := by decide +kernel
theorem dX3_readsMember_22 : decode cX3_readsMember 22 = .ok (.if_icmp .eq 13, 3) := by decide +kernel
theorem dX3_readsMember_25 : decode cX3_readsMember 25 = .ok (.aload_n 0, 1) := by decide +kernel
theorem dX3_readsMember_26 : decode cX3_readsMember 26 = .ok (.invokevirtual 140, 3) := by decide +kernel
theorem dX3_readsMember_29 : decode cX3_readsMember 29 = .ok (.bipush 48, 2) := by decide +kernel
theorem dX3_readsMember_31 : decode cX3_readsMember 31 = .ok (.isub, 1) := by decide +kernel
theorem dX3_readsMember_32 : decode cX3_readsMember 32 = .ok (.goto 4, 3) := by decide +kernel
theorem dX3_readsMember_35 : decode cX3_readsMember 35 = .ok (.iconst (-1), 1) := by decide +kernel
theorem dX3_readsMember_36 : decode cX3_readsMember 36 = .ok (.istore_n 2, 1) := by decide +kernel
theorem dX3_readsMember_37 : decode cX3_readsMember 37 = .ok (.aload_n 0, 1) := by decide +kernel
theorem dX3_readsMember_38 : decode cX3_readsMember 38 = .ok (.dup, 1) := by decide +kernel
theorem dX3_readsMember_39 : decode cX3_readsMember 39 = .ok (.getfield 137, 3) := by decide +kernel
theorem dX3_readsMember_42 : decode cX3_readsMember 42 = .ok (.iload_n 2, 1) := by decide +kernel
theorem dX3_readsMember_43 : decode cX3_readsMember 43 = .ok (.iconst (-1), 1) := by decide +kernel
theorem dX3_readsMember_44 : decode cX3_readsMember 44 = .ok (.if_icmp .ne 7, 3) := by decide +kernel
theorem dX3_readsMember_47 : decode cX3_readsMember 47 = .ok (.iconst 0, 1) := by decide +kernel
theorem dX3_readsMember_48 : decode cX3_readsMember 48 = .ok (.goto 4, 3) := by decide +kernel
theorem dX3_readsMember_51 : decode cX3_readsMember 51 = .ok (.iconst 1, 1) := by decide +kernel
theorem dX3_readsMember_52 : decode cX3_readsMember 52 = .ok (.iadd, 1) := by decide +kernel
theorem dX3_readsMember_53 : decode cX3_readsMember 53 = .ok (.putfield 137, 3) := by decide +kernel
theorem dX3_readsMember_56 : decode cX3_readsMember 56 = .ok (.iload_n 2, 1) := by decide +kernel
theorem dX3_readsMember_57 : decode cX3_readsMember 57 = .ok (.ireturn, 1) := by decide +kernel
set_option maxRecDepth 20000 in
theorem ggX3_readsNumber_X3_sign : GoodIn wsX3_readsNumber wsX3_sign := goodIn_r _ [6, 1, 7, 8, 12, 13, 14, 15, 16, 17, 18, 19, 20, 21, 22, 23, 24, 25] (by decide +kernel) (by decide +kernel)
set_option maxRecDepth 20000 in
theorem gX3_readsNumber_X3_sign : GoodIn wsX3_readsNumber (wsV RX3 140 RX3 yX3_sign wsX3_sign) := goodIn_app (goodIn_of _ (by decide +kernel)) ggX3_readsNumber_X3_sign
set_option maxRecDepth 20000 in
theorem ggX3_readsNumber_X3_in : GoodIn wsX3_readsNumber wsX3_in := goodIn_r _ [11] (by decide +kernel) (by decide +kernel)
set_option maxRecDepth 20000 in
theorem gX3_readsNumber_X3_in : GoodIn wsX3_readsNumber (va_wsS RX3 27 yX3_in wsX3_in) := goodIn_app (goodIn_of _ (by decide +kernel)) ggX3_readsNumber_X3_in
theorem dX3_readsNumber_0 : decode cX3_readsNumber 0 = .ok (.aload_n 0, 1) := by decide +kernel
theorem dX3_readsNumber_1 : decode cX3_readsNumber 1 = .ok (.invokevirtual 140, 3) := by decide +kernel
theorem dX3_readsNumber_4 : decode cX3_readsNumber 4 = .ok (.bipush 49, 2) := by decide +kernel
theorem dX3_readsNumber_6 : decode cX3_readsNumber 6 = .ok (.bipush 57, 2) := by decide +kernel
theorem dX3_readsNumber_8 : decode cX3_readsNumber 8 = .ok (.invokestatic 27, 3) := by decide +kernel
theorem dX3_readsNumber_11 : decode cX3_readsNumber 11 = .ok (.ifCond .eq 13, 3) := by decide +kernel
theorem dX3_readsNumber_14 : decode cX3_readsNumber 14 = .ok (.aload_n 0, 1) := by decide +kernel
theorem dX3_readsNumber_15 : decode cX3_readsNumber 15 = .ok (.invokevirtual 140, 3) := by decide +kernel
theorem dX3_readsNumber_18 : decode cX3_readsNumber 18 = .ok (.bipush 48, 2) := by decide +kernel
theorem dX3_readsNumber_20 : decode cX3_readsNumber 20 = .ok (.isub, 1) := by decide +kernel
theorem dX3_readsNumber_21 : decode cX3_readsNumber 21 = .ok (.goto 4, 3) := by decide +kernel
theorem dX3_readsNumber_24 : decode cX3_readsNumber 24 = .ok (.iconst 0, 1) := by decide +kernel
theorem dX3_readsNumber_25 : decode cX3_readsNumber 25 = .ok (.istore_n 2, 1) := by decide +kernel
theorem dX3_readsNumber_26 : decode cX3_readsNumber 26 = .ok (.aload_n 0, 1) := by decide +kernel
theorem dX3_readsNumber_27 : decode cX3_readsNumber 27 = .ok (.dup, 1) := by decide +kernel
theorem dX3_readsNumber_28 : decode cX3_readsNumber 28 = .ok (.getfield 137, 3) := by decide +kernel
theorem dX3_readsNumber_31 : decode cX3_readsNumber 31 = .ok (.iload_n 2, 1) := by decide +kernel
theorem dX3_readsNumber_32 : decode cX3_readsNumber 32 = .ok (.ifCond .le 7, 3) := by decide +kernel
theorem dX3_readsNumber_35 : decode cX3_readsNumber 35 = .ok (.iconst 1, 1) := by decide +kernel
theorem dX3_readsNumber_36 : decode cX3_readsNumber 36 = .ok (.goto 4, 3) := by decide +kernel
theorem dX3_readsNumber_39 : decode cX3_readsNumber 39 = .ok (.iconst 0, 1) := by decide +kernel
theorem dX3_readsNumber_40 : decode cX3_readsNumber 40 = .ok (.iadd, 1) := by decide +kernel
theorem dX3_readsNumber_41 : decode cX3_readsNumber 41 = .ok (.putfield 137, 3) := by decide +kernel
theorem dX3_readsNumber_44 : decode cX3_readsNumber 44 = .ok (.iload_n 2, 1) := by decide +kernel
theorem dX3_readsNumber_45 : decode cX3_readsNumber 45 = .ok (.ifCond .le 59, 3) := by decide +kernel
theorem dX3_readsNumber_48 : decode cX3_readsNumber 48 = .ok (.aload_n 0, 1) := by decide +kernel
theorem dX3_readsNumber_49 : decode cX3_readsNumber 49 = .ok (.invokevirtual 140, 3) := by decide +kernel
theorem dX3_readsNumber_52 : decode cX3_readsNumber 52 = .ok (.bipush 48, 2) := by decide +kernel
theorem dX3_readsNumber_54 : decode cX3_readsNumber 54 = .ok (.bipush 57, 2) := by decide +kernel
theorem dX3_readsNumber_56 : decode cX3_readsNumber 56 = .ok (.invokestatic 27, 3) := by decide +kernel
theorem dX3_readsNumber_59 : decode cX3_readsNumber 59 = .ok (.ifCond .eq 45, 3) := by decide +kernel
theorem dX3_readsNumber_62 : decode cX3_readsNumber 62 = .ok (.bipush 10, 2) := by decide +kernel
theorem dX3_readsNumber_64 : decode cX3_readsNumber 64 = .ok (.iload_n 2, 1) := by decide +kernel
theorem dX3_readsNumber_65 : decode cX3_readsNumber 65 = .ok (.imul, 1) := by decide +kernel
theorem dX3_readsNumber_66 : decode cX3_readsNumber 66 = .ok (.aload_n 0, 1) := by decide +kernel
theorem dX3_readsNumber_67 : decode cX3_readsNumber 67 = .ok (.invokevirtual 140, 3) := by decide +kernel
theorem dX3_readsNumber_70 : decode cX3_readsNumber 70 = .ok (.iadd, 1) := by decide +kernel
theorem dX3_readsNumber_71 : decode cX3_readsNumber 71 = .ok (.bipush 48, 2) := by decide +kernel
theorem dX3_readsNumber_73 : decode cX3_readsNumber 73 = .ok (.isub, 1) := by decide +kernel
theorem dX3_readsNumber_74 : decode cX3_readsNumber 74 = .ok (.iload_n 1, 1) := by decide +kernel
theorem dX3_readsNumber_75 : decode cX3_readsNumber 75 = .ok (.if_icmp .gt 29, 3) := by decide +kernel
theorem dX3_readsNumber_78 : decode cX3_readsNumber 78 = .ok (.bipush 10, 2) := by decide +kernel
theorem dX3_readsNumber_80 : decode cX3_readsNumber 80 = .ok (.iload_n 2, 1) := by decide +kernel
theorem dX3_readsNumber_81 : decode cX3_readsNumber 81 = .ok (.imul, 1) := by decide +kernel
theorem dX3_readsNumber_82 : decode cX3_readsNumber 82 = .ok (.aload_n 0, 1) := by decide +kernel
theorem dX3_readsNumber_83 : decode cX3_readsNumber 83 = .ok (.invokevirtual 140, 3) := by decide +kernel
theorem dX3_readsNumber_86 : decode cX3_readsNumber 86 = .ok (.iadd, 1) := by decide +kernel
theorem dX3_readsNumber_87 : decode cX3_readsNumber 87 = .ok (.bipush 48, 2) := by decide +kernel
theorem dX3_readsNumber_89 : decode cX3_readsNumber 89 = .ok (.isub, 1) := by decide +kernel
theorem dX3_readsNumber_90 : decode cX3_readsNumber 90 = .ok (.istore_n 2, 1) := by decide +kernel
theorem dX3_readsNumber_91 : decode cX3_readsNumber 91 = .ok (.aload_n 0, 1) := by decide +kernel
theorem dX3_readsNumber_92 : decode cX3_readsNumber 92 = .ok (.dup, 1) := by decide +kernel
theorem dX3_readsNumber_93 : decode cX3_readsNumber 93 = .ok (.getfield 137, 3) := by decide +kernel
theorem dX3_readsNumber_96 : decode cX3_readsNumber 96 = .ok (.iconst 1, 1) := by decide +kernel
theorem dX3_readsNumber_97 : decode cX3_readsNumber 97 = .ok (.iadd, 1) := by decide +kernel
theorem dX3_readsNumber_98 : decode cX3_readsNumber 98 = .ok (.putfield 137, 3) := by decide +kernel
theorem dX3_readsNumber_101 : decode cX3_readsNumber 101 = .ok (.goto (-57), 3) := by decide +kernel
theorem dX3_readsNumber_104 : decode cX3_readsNumber 104 = .ok (.iload_n 2, 1) := by decide +kernel
theorem dX3_readsNumber_105 : decode cX3_readsNumber 105 = .ok (.ireturn, 1) := by decide +kernel
set_option maxRecDepth 20000 in
theorem ggX3_readsOrder_X3_sign : GoodIn wsX3_readsOrder wsX3_sign := goodIn_r _ [10, 11, 12, 13, 29, 30, 31, 32, 33, 34, 35, 36, 37, 38, 39, 40, 41, 42] (by decide +kernel) (by decide +kernel)
set_option maxRecDepth 20000 in
theorem gX3_readsOrder_X3_sign : GoodIn wsX3_readsOrder (wsV RX3 140 RX3 yX3_sign wsX3_sign) := goodIn_app (goodIn_of _ (by decide +kernel)) ggX3_readsOrder_X3_sign
set_option maxRecDepth 20000 in
theorem ggX3_readsOrder_X3_takesSign : GoodIn wsX3_readsOrder wsX3_takesSign := goodIn_r _ [17, 11, 6, 7, 8, 9, 10, 12, 13, 29, 30, 31, 32, 33, 34, 35, 36, 37, 38, 39, 40, 41, 42] (by decide +kernel) (by decide +kernel)
set_option maxRecDepth 20000 in
theorem gX3_readsOrder_X3_takesSign : GoodIn wsX3_readsOrder (wsV RX3 146 RX3 yX3_takesSign wsX3_takesSign) := goodIn_app (goodIn_of _ (by decide +kernel)) ggX3_readsOrder_X3_takesSign
set_option maxRecDepth 20000 in
theorem ggX3_readsOrder_X3_readsMember : GoodIn wsX3_readsOrder wsX3_readsMember := goodIn_r _ [21, 11, 6, 7, 8, 9, 10, 12, 13, 22, 23, 24, 29, 30, 31, 32, 33, 34, 35, 36, 37, 38, 39, 40, 41, 42] (by decide +kernel) (by decide +kernel)
set_option maxRecDepth 20000 in
theorem gX3_readsOrder_X3_readsMember : GoodIn wsX3_readsOrder (wsV RX3 149 RX3 yX3_readsMember wsX3_readsMember) := goodIn_app (goodIn_of _ (by decide +kernel)) ggX3_readsOrder_X3_readsMember
set_option maxRecDepth 20000 in
theorem ggX3_readsOrder_X3_readsNumber : GoodIn wsX3_readsOrder wsX3_readsNumber := goodIn_r _ [28, 11, 6, 7, 8, 9, 10, 12, 13, 22, 23, 24, 29, 30, 31, 32, 33, 34, 35, 36, 37, 38, 39, 40, 41, 42] (by decide +kernel) (by decide +kernel)
set_option maxRecDepth 20000 in
theorem gX3_readsOrder_X3_readsNumber : GoodIn wsX3_readsOrder (wsV RX3 158 RX3 yX3_readsNumber wsX3_readsNumber) := goodIn_app (goodIn_of _ (by decide +kernel)) ggX3_readsOrder_X3_readsNumber
theorem dX3_readsOrder_0 : decode cX3_readsOrder 0 = .ok (.aload_n 0, 1) := by decide +kernel
theorem dX3_readsOrder_1 : decode cX3_readsOrder 1 = .ok (.aload_n 0, 1) := by decide +kernel
theorem dX3_readsOrder_2 : decode cX3_readsOrder 2 = .ok (.invokevirtual 140, 3) := by decide +kernel
theorem dX3_readsOrder_5 : decode cX3_readsOrder 5 = .ok (.putfield 143, 3) := by decide +kernel
theorem dX3_readsOrder_8 : decode cX3_readsOrder 8 = .ok (.aload_n 0, 1) := by decide +kernel
theorem dX3_readsOrder_9 : decode cX3_readsOrder 9 = .ok (.bipush 119, 2) := by decide +kernel
theorem dX3_readsOrder_11 : decode cX3_readsOrder 11 = .ok (.invokevirtual 146, 3) := by decide +kernel
theorem dX3_readsOrder_14 : decode cX3_readsOrder 14 = .ok (.ifCond .eq 5, 3) := by decide +kernel
theorem dX3_readsOrder_17 : decode cX3_readsOrder 17 = .ok (.iconst 1, 1) := by decide +kernel
theorem dX3_readsOrder_18 : decode cX3_readsOrder 18 = .ok (.ireturn, 1) := by decide +kernel
theorem dX3_readsOrder_19 : decode cX3_readsOrder 19 = .ok (.aload_n 0, 1) := by decide +kernel
theorem dX3_readsOrder_20 : decode cX3_readsOrder 20 = .ok (.bipush 43, 2) := by decide +kernel
theorem dX3_readsOrder_22 : decode cX3_readsOrder 22 = .ok (.invokevirtual 146, 3) := by decide +kernel
theorem dX3_readsOrder_25 : decode cX3_readsOrder 25 = .ok (.ifCond .ne 41, 3) := by decide +kernel
theorem dX3_readsOrder_28 : decode cX3_readsOrder 28 = .ok (.aload_n 0, 1) := by decide +kernel
theorem dX3_readsOrder_29 : decode cX3_readsOrder 29 = .ok (.bipush 45, 2) := by decide +kernel
theorem dX3_readsOrder_31 : decode cX3_readsOrder 31 = .ok (.invokevirtual 146, 3) := by decide +kernel
theorem dX3_readsOrder_34 : decode cX3_readsOrder 34 = .ok (.ifCond .ne 32, 3) := by decide +kernel
theorem dX3_readsOrder_37 : decode cX3_readsOrder 37 = .ok (.aload_n 0, 1) := by decide +kernel
theorem dX3_readsOrder_38 : decode cX3_readsOrder 38 = .ok (.bipush 112, 2) := by decide +kernel
theorem dX3_readsOrder_40 : decode cX3_readsOrder 40 = .ok (.invokevirtual 146, 3) := by decide +kernel
theorem dX3_readsOrder_43 : decode cX3_readsOrder 43 = .ok (.ifCond .ne 23, 3) := by decide +kernel
theorem dX3_readsOrder_46 : decode cX3_readsOrder 46 = .ok (.aload_n 0, 1) := by decide +kernel
theorem dX3_readsOrder_47 : decode cX3_readsOrder 47 = .ok (.bipush 98, 2) := by decide +kernel
theorem dX3_readsOrder_49 : decode cX3_readsOrder 49 = .ok (.invokevirtual 146, 3) := by decide +kernel
theorem dX3_readsOrder_52 : decode cX3_readsOrder 52 = .ok (.ifCond .ne 14, 3) := by decide +kernel
theorem dX3_readsOrder_55 : decode cX3_readsOrder 55 = .ok (.aload_n 0, 1) := by decide +kernel
theorem dX3_readsOrder_56 : decode cX3_readsOrder 56 = .ok (.bipush 114, 2) := by decide +kernel
theorem dX3_readsOrder_58 : decode cX3_readsOrder 58 = .ok (.invokevirtual 146, 3) := by decide +kernel
theorem dX3_readsOrder_61 : decode cX3_readsOrder 61 = .ok (.ifCond .ne 5, 3) := by decide +kernel
theorem dX3_readsOrder_64 : decode cX3_readsOrder 64 = .ok (.iconst 0, 1) := by decide +kernel
theorem dX3_readsOrder_65 : decode cX3_readsOrder 65 = .ok (.ireturn, 1) := by decide +kernel
theorem dX3_readsOrder_66 : decode cX3_readsOrder 66 = .ok (.aload_n 0, 1) := by decide +kernel
theorem dX3_readsOrder_67 : decode cX3_readsOrder 67 = .ok (.aload_n 0, 1) := by decide +kernel
theorem dX3_readsOrder_68 : decode cX3_readsOrder 68 = .ok (.iconst (-1), 1) := by decide +kernel
theorem dX3_readsOrder_69 : decode cX3_readsOrder 69 = .ok (.invokevirtual 149, 3) := by decide +kernel
theorem dX3_readsOrder_72 : decode cX3_readsOrder 72 = .ok (.putfield 152, 3) := by decide +kernel
theorem dX3_readsOrder_75 : decode cX3_readsOrder 75 = .ok (.aload_n 0, 1) := by decide +kernel
theorem dX3_readsOrder_76 : decode cX3_readsOrder 76 = .ok (.getfield 152, 3) := by decide +kernel
theorem dX3_readsOrder_79 : decode cX3_readsOrder 79 = .ok (.iconst (-1), 1) := by decide +kernel
theorem dX3_readsOrder_80 : decode cX3_readsOrder 80 = .ok (.if_icmp .ne 5, 3) := by decide +kernel
theorem dX3_readsOrder_83 : decode cX3_readsOrder 83 = .ok (.iconst 0, 1) := by decide +kernel
theorem dX3_readsOrder_84 : decode cX3_readsOrder 84 = .ok (.ireturn, 1) := by decide +kernel
theorem dX3_readsOrder_85 : decode cX3_readsOrder 85 = .ok (.aload_n 0, 1) := by decide +kernel
theorem dX3_readsOrder_86 : decode cX3_readsOrder 86 = .ok (.getfield 143, 3) := by decide +kernel
theorem dX3_readsOrder_89 : decode cX3_readsOrder 89 = .ok (.bipush 112, 2) := by decide +kernel
theorem dX3_readsOrder_91 : decode cX3_readsOrder 91 = .ok (.if_icmp .ne 38, 3) := by decide +kernel
theorem dX3_readsOrder_94 : decode cX3_readsOrder 94 = .ok (.aload_n 0, 1) := by decide +kernel
theorem dX3_readsOrder_95 : decode cX3_readsOrder 95 = .ok (.aload_n 0, 1) := by decide +kernel
theorem dX3_readsOrder_96 : decode cX3_readsOrder 96 = .ok (.bipush 62, 2) := by decide +kernel
theorem dX3_readsOrder_98 : decode cX3_readsOrder 98 = .ok (.invokevirtual 146, 3) := by decide +kernel
theorem dX3_readsOrder_101 : decode cX3_readsOrder 101 = .ok (.ifCond .eq 14, 3) := by decide +kernel
theorem dX3_readsOrder_104 : decode cX3_readsOrder 104 = .ok (.aload_n 0, 1) := by decide +kernel
theorem dX3_readsOrder_105 : decode cX3_readsOrder 105 = .ok (.aload_n 0, 1) := by decide +kernel
theorem dX3_readsOrder_106 : decode cX3_readsOrder 106 = .ok (.getfield 152, 3) := by decide +kernel
theorem dX3_readsOrder_109 : decode cX3_readsOrder 109 = .ok (.invokevirtual 149, 3) := by decide +kernel
theorem dX3_readsOrder_112 : decode cX3_readsOrder 112 = .ok (.goto 4, 3) := by decide +kernel
theorem dX3_readsOrder_115 : decode cX3_readsOrder 115 = .ok (.iconst (-1), 1) := by decide +kernel
theorem dX3_readsOrder_116 : decode cX3_readsOrder 116 = .ok (.putfield 155, 3) := by decide +kernel
theorem dX3_readsOrder_119 : decode cX3_readsOrder 119 = .ok (.aload_n 0, 1) := by decide +kernel
theorem dX3_readsOrder_120 : decode cX3_readsOrder 120 = .ok (.getfield 155, 3) := by decide +kernel
theorem dX3_readsOrder_123 : decode cX3_readsOrder 123 = .ok (.iconst (-1), 1) := by decide +kernel
theorem dX3_readsOrder_124 : decode cX3_readsOrder 124 = .ok (.if_icmp .ne 5, 3) := by decide +kernel
theorem dX3_readsOrder_127 : decode cX3_readsOrder 127 = .ok (.iconst 0, 1) := by decide +kernel
theorem dX3_readsOrder_128 : decode cX3_readsOrder 128 = .ok (.ireturn, 1) := by decide +kernel
theorem dX3_readsOrder_129 : decode cX3_readsOrder 129 = .ok (.aload_n 0, 1) := by decide +kernel
theorem dX3_readsOrder_130 : decode cX3_readsOrder 130 = .ok (.aload_n 0, 1) := by decide +kernel
theorem dX3_readsOrder_131 : decode cX3_readsOrder 131 = .ok (.bipush 58, 2) := by decide +kernel
theorem dX3_readsOrder_133 : decode cX3_readsOrder 133 = .ok (.invokevirtual 146, 3) := by decide +kernel
theorem dX3_readsOrder_136 : decode cX3_readsOrder 136 = .ok (.ifCond .eq 13, 3) := by decide +kernel
theorem dX3_readsOrder_139 : decode cX3_readsOrder 139 = .ok (.aload_n 0, 1) := by decide +kernel
theorem dX3_readsOrder_140 : decode cX3_readsOrder 140 = .ok (.sipush 9999, 3) := by decide +kernel
theorem dX3_readsOrder_143 : decode cX3_readsOrder 143 = .ok (.invokevirtual 158, 3) := by decide +kernel
theorem dX3_readsOrder_146 : decode cX3_readsOrder 146 = .ok (.goto 4, 3) := by decide +kernel
theorem dX3_readsOrder_149 : decode cX3_readsOrder 149 = .ok (.iconst 0, 1) := by decide +kernel
theorem dX3_readsOrder_150 : decode cX3_readsOrder 150 = .ok (.putfield 161, 3) := by decide +kernel
theorem dX3_readsOrder_153 : decode cX3_readsOrder 153 = .ok (.aload_n 0, 1) := by decide +kernel
theorem dX3_readsOrder_154 : decode cX3_readsOrder 154 = .ok (.getfield 143, 3) := by decide +kernel
theorem dX3_readsOrder_157 : decode cX3_readsOrder 157 = .ok (.bipush 98, 2) := by decide +kernel
theorem dX3_readsOrder_159 : decode cX3_readsOrder 159 = .ok (.if_icmp .ne 10, 3) := by decide +kernel
theorem dX3_readsOrder_162 : decode cX3_readsOrder 162 = .ok (.aload_n 0, 1) := by decide +kernel
theorem dX3_readsOrder_163 : decode cX3_readsOrder 163 = .ok (.getfield 161, 3) := by decide +kernel
theorem dX3_readsOrder_166 : decode cX3_readsOrder 166 = .ok (.ifCond .ne 16, 3) := by decide +kernel
theorem dX3_readsOrder_169 : decode cX3_readsOrder 169 = .ok (.aload_n 0, 1) := by decide +kernel
theorem dX3_readsOrder_170 : decode cX3_readsOrder 170 = .ok (.getfield 161, 3) := by decide +kernel
theorem dX3_readsOrder_173 : decode cX3_readsOrder 173 = .ok (.ifCond .le 7, 3) := by decide +kernel
theorem dX3_readsOrder_176 : decode cX3_readsOrder 176 = .ok (.iconst 1, 1) := by decide +kernel
theorem dX3_readsOrder_177 : decode cX3_readsOrder 177 = .ok (.goto 4, 3) := by decide +kernel
theorem dX3_readsOrder_180 : decode cX3_readsOrder 180 = .ok (.iconst 0, 1) := by decide +kernel
theorem dX3_readsOrder_181 : decode cX3_readsOrder 181 = .ok (.ireturn, 1) := by decide +kernel
theorem dX3_readsOrder_182 : decode cX3_readsOrder 182 = .ok (.aload_n 0, 1) := by decide +kernel
theorem dX3_readsOrder_183 : decode cX3_readsOrder 183 = .ok (.aload_n 0, 1) := by decide +kernel
theorem dX3_readsOrder_184 : decode cX3_readsOrder 184 = .ok (.bipush 47, 2) := by decide +kernel
theorem dX3_readsOrder_186 : decode cX3_readsOrder 186 = .ok (.invokevirtual 146, 3) := by decide +kernel
theorem dX3_readsOrder_189 : decode cX3_readsOrder 189 = .ok (.ifCond .eq 12, 3) := by decide +kernel
theorem dX3_readsOrder_192 : decode cX3_readsOrder 192 = .ok (.aload_n 0, 1) := by decide +kernel
theorem dX3_readsOrder_193 : decode cX3_readsOrder 193 = .ok (.bipush 52, 2) := by decide +kernel
theorem dX3_readsOrder_195 : decode cX3_readsOrder 195 = .ok (.invokevirtual 158, 3) := by decide +kernel
theorem dX3_readsOrder_198 : decode cX3_readsOrder 198 = .ok (.goto 4, 3) := by decide +kernel
theorem dX3_readsOrder_201 : decode cX3_readsOrder 201 = .ok (.iconst 0, 1) := by decide +kernel
theorem dX3_readsOrder_202 : decode cX3_readsOrder 202 = .ok (.putfield 164, 3) := by decide +kernel
theorem dX3_readsOrder_205 : decode cX3_readsOrder 205 = .ok (.aload_n 0, 1) := by decide +kernel
theorem dX3_readsOrder_206 : decode cX3_readsOrder 206 = .ok (.getfield 164, 3) := by decide +kernel
theorem dX3_readsOrder_209 : decode cX3_readsOrder 209 = .ok (.ifCond .le 7, 3) := by decide +kernel
theorem dX3_readsOrder_212 : decode cX3_readsOrder 212 = .ok (.iconst 1, 1) := by decide +kernel
theorem dX3_readsOrder_213 : decode cX3_readsOrder 213 = .ok (.goto 4, 3) := by decide +kernel
theorem dX3_readsOrder_216 : decode cX3_readsOrder 216 = .ok (.iconst 0, 1) := by decide +kernel
theorem dX3_readsOrder_217 : decode cX3_readsOrder 217 = .ok (.ireturn, 1) := by decide +kernel
set_option maxRecDepth 20000 in
theorem ggX3_areOrders_X3_readsOrder : GoodIn wsX3_areOrders wsX3_readsOrder := goodIn_r _ [7, 8, 9, 10, 11, 12, 13, 14, 15, 6, 16, 1, 2, 17, 18, 19, 20, 21, 22, 23, 24, 25, 26, 27, 28, 29, 30, 31, 32, 33, 34, 35, 36, 37, 38, 39, 40, 41, 42, 43, 44, 45, 46] (by decide +kernel) (by decide +kernel)
set_option maxRecDepth 20000 in
theorem gX3_areOrders_X3_readsOrder : GoodIn wsX3_areOrders (wsV RX3 167 RX3 yX3_readsOrder wsX3_readsOrder) := goodIn_app (goodIn_of _ (by decide +kernel)) ggX3_areOrders_X3_readsOrder
set_option maxRecDepth 20000 in
theorem ggX3_areOrders_X3_takesSign : GoodIn wsX3_areOrders wsX3_takesSign := goodIn_r _ [21, 1, 13, 14, 15, 6, 16, 2, 17, 33, 34, 35, 36, 37, 38, 39, 40, 41, 42, 43, 44, 45, 46] (by decide +kernel) (by decide +kernel)
set_option maxRecDepth 20000 in
theorem gX3_areOrders_X3_takesSign : GoodIn wsX3_areOrders (wsV RX3 146 RX3 yX3_takesSign wsX3_takesSign) := goodIn_app (goodIn_of _ (by decide +kernel)) ggX3_areOrders_X3_takesSign
theorem dX3_areOrders_0 : decode cX3_areOrders 0 = .ok (.aload_n 0, 1) := by decide +kernel
theorem dX3_areOrders_1 : decode cX3_areOrders 1 = .ok (.iconst 0, 1) := by decide +kernel
theorem dX3_areOrders_2 : decode cX3_areOrders 2 = .ok (.putfield 137, 3) := by decide +kernel
theorem dX3_areOrders_5 : decode cX3_areOrders 5 = .ok (.aload_n 0, 1) := by decide +kernel
theorem dX3_areOrders_6 : decode cX3_areOrders 6 = .ok (.invokevirtual 167, 3) := by decide +kernel
theorem dX3_areOrders_9 : decode cX3_areOrders 9 = .ok (.ifCond .eq 27, 3) := by decide +kernel
theorem dX3_areOrders_12 : decode cX3_areOrders 12 = .ok (.aload_n 0, 1) := by decide +kernel
theorem dX3_areOrders_13 : decode cX3_areOrders 13 = .ok (.getfield 137, 3) := by decide +kernel
theorem dX3_areOrders_16 : decode cX3_areOrders 16 = .ok (.aload_n 0, 1) := by decide +kernel
theorem dX3_areOrders_17 : decode cX3_areOrders 17 = .ok (.getfield 134, 3) := by decide +kernel
theorem dX3_areOrders_20 : decode cX3_areOrders 20 = .ok (.if_icmp .ne 5, 3) := by decide +kernel
theorem dX3_areOrders_23 : decode cX3_areOrders 23 = .ok (.iconst 1, 1) := by decide +kernel
theorem dX3_areOrders_24 : decode cX3_areOrders 24 = .ok (.ireturn, 1) := by decide +kernel
theorem dX3_areOrders_25 : decode cX3_areOrders 25 = .ok (.aload_n 0, 1) := by decide +kernel
theorem dX3_areOrders_26 : decode cX3_areOrders 26 = .ok (.bipush 59, 2) := by decide +kernel
theorem dX3_areOrders_28 : decode cX3_areOrders 28 = .ok (.invokevirtual 146, 3) := by decide +kernel
theorem dX3_areOrders_31 : decode cX3_areOrders 31 = .ok (.ifCond .ne (-26), 3) := by decide +kernel
theorem dX3_areOrders_34 : decode cX3_areOrders 34 = .ok (.iconst 0, 1) := by decide +kernel
theorem dX3_areOrders_35 : decode cX3_areOrders 35 = .ok (.ireturn, 1) := by decide +kernel
theorem dX3_areOrders_36 : decode cX3_areOrders 36 = .ok (.iconst 0, 1) := by decide +kernel
theorem dX3_areOrders_37 : decode cX3_areOrders 37 = .ok (.ireturn, 1) := by decide +kernel
set_option maxRecDepth 20000 in
theorem ggX3_firstError_X3_areOrders : GoodIn wsX3_firstError wsX3_areOrders := goodIn_r _ [7, 2, 8, 9, 10, 11, 6, 12, 13, 14, 15, 16, 17, 18, 19, 20, 21, 22, 23, 24, 25, 26, 27, 28, 29, 30, 31, 32, 33, 34, 35, 36, 37, 38, 39, 40, 41, 42, 43, 44, 45, 46, 47, 48, 49, 50, 51] (by decide +kernel) (by decide +kernel)
set_option maxRecDepth 20000 in
theorem gX3_firstError_X3_areOrders : GoodIn wsX3_firstError (wsV RX3 171 RX3 yX3_areOrders wsX3_areOrders) := goodIn_app (goodIn_of _ (by decide +kernel)) ggX3_firstError_X3_areOrders
theorem dX3_firstError_0 : decode cX3_firstError 0 = .ok (.aload_n 0, 1) := by decide +kernel
theorem dX3_firstError_1 : decode cX3_firstError 1 = .ok (.iconst 0, 1) := by decide +kernel
theorem dX3_firstError_2 : decode cX3_firstError 2 = .ok (.putfield 23, 3) := by decide +kernel
theorem dX3_firstError_5 : decode cX3_firstError 5 = .ok (.aload_n 0, 1) := by decide +kernel
theorem dX3_firstError_6 : decode cX3_firstError 6 = .ok (.invokevirtual 171, 3) := by decide +kernel
theorem dX3_firstError_9 : decode cX3_firstError 9 = .ok (.pop, 1) := by decide +kernel
theorem dX3_firstError_10 : decode cX3_firstError 10 = .ok (.aload_n 0, 1) := by decide +kernel
theorem dX3_firstError_11 : decode cX3_firstError 11 = .ok (.getfield 137, 3) := by decide +kernel
theorem dX3_firstError_14 : decode cX3_firstError 14 = .ok (.ireturn, 1) := by decide +kernel
set_option maxRecDepth 20000 in
theorem ggX3_does_X3_paysIn : GoodIn wsX3_does wsX3_paysIn := goodIn_r _ [10, 11, 12, 13, 14, 15, 9, 16, 17, 18, 19, 20, 21, 22, 23, 24, 84, 85, 86, 87, 88, 89, 90, 91, 92, 93, 94, 95, 96, 97] (by decide +kernel) (by decide +kernel)
set_option maxRecDepth 20000 in
theorem gX3_does_X3_paysIn : GoodIn wsX3_does (wsV RX3 104 RX3 yX3_paysIn wsX3_paysIn) := goodIn_app (goodIn_of _ (by decide +kernel)) ggX3_does_X3_paysIn
set_option maxRecDepth 20000 in
theorem ggX3_does_X3_paysOut : GoodIn wsX3_does wsX3_paysOut := goodIn_r _ [28, 12, 29, 30, 31, 9, 32, 13, 14, 15, 16, 33, 34, 35, 36, 37, 38, 39, 40, 41, 42, 43, 44, 45, 46, 47, 48, 17, 18, 19, 20, 21, 22, 23, 24, 84, 85, 86, 87, 88, 89, 90, 91, 92, 93, 94, 95, 96, 97] (by decide +kernel) (by decide +kernel)
set_option maxRecDepth 20000 in
theorem gX3_does_X3_paysOut : GoodIn wsX3_does (wsV RX3 107 RX3 yX3_paysOut wsX3_paysOut) := goodIn_app (goodIn_of _ (by decide +kernel)) ggX3_does_X3_paysOut
set_option maxRecDepth 20000 in
theorem ggX3_does_X3_pledges : GoodIn wsX3_does wsX3_pledges := goodIn_r _ [52, 12, 29, 30, 31, 9, 32, 13, 14, 15, 16, 33, 34, 35, 36, 37, 38, 39, 40, 41, 42, 43, 44, 45, 46, 47, 48, 17, 18, 19, 20, 84, 85, 86, 87, 88, 89, 90, 91, 92, 93, 94, 95, 96, 97] (by decide +kernel) (by decide +kernel)
set_option maxRecDepth 20000 in
theorem gX3_does_X3_pledges : GoodIn wsX3_does (wsV RX3 113 RX3 yX3_pledges wsX3_pledges) := goodIn_app (goodIn_of _ (by decide +kernel)) ggX3_does_X3_pledges
set_option maxRecDepth 20000 in
theorem ggX3_does_X3_lends : GoodIn wsX3_does wsX3_lends := goodIn_r _ [56, 12, 57, 58, 59, 9, 60, 13, 14, 15, 16, 61, 62, 63, 64, 41, 42, 43, 44, 45, 46, 47, 48, 37, 38, 39, 40, 33, 34, 35, 36, 65, 66, 67, 17, 18, 19, 20, 21, 22, 23, 24, 84, 85, 86, 87, 88, 89, 90, 91, 92, 93, 94, 95, 96, 97] (by decide +kernel) (by decide +kernel)
set_option maxRecDepth 20000 in
theorem gX3_does_X3_lends : GoodIn wsX3_does (wsV RX3 119 RX3 yX3_lends wsX3_lends) := goodIn_app (goodIn_of _ (by decide +kernel)) ggX3_does_X3_lends
set_option maxRecDepth 20000 in
theorem ggX3_does_X3_repays : GoodIn wsX3_does wsX3_repays := goodIn_r _ [71, 12, 13, 14, 15, 9, 16, 17, 18, 19, 20, 21, 22, 23, 24, 84, 85, 86, 87, 88, 89, 90, 91, 92, 93, 94, 95, 96, 97] (by decide +kernel) (by decide +kernel)
set_option maxRecDepth 20000 in
theorem gX3_does_X3_repays : GoodIn wsX3_does (wsV RX3 122 RX3 yX3_repays wsX3_repays) := goodIn_app (goodIn_of _ (by decide +kernel)) ggX3_does_X3_repays
set_option maxRecDepth 20000 in
theorem ggX3_does_X3_endsWeek : GoodIn wsX3_does wsX3_endsWeek := goodIn_r _ [75, 12, 13, 14, 15, 9, 16, 21, 22, 23, 24, 76, 77, 78, 79, 41, 42, 43, 44, 45, 46, 47, 48, 37, 38, 39, 40, 80, 81, 82, 83, 84, 85, 86, 87, 88, 89, 90, 91, 92, 93, 94, 95, 96, 97] (by decide +kernel) (by decide +kernel)
set_option maxRecDepth 20000 in
theorem gX3_does_X3_endsWeek : GoodIn wsX3_does (wsV RX3 125 RX3 yX3_endsWeek wsX3_endsWeek) := goodIn_app (goodIn_of _ (by decide +kernel)) ggX3_does_X3_endsWeek
theorem dX3_does_0 : decode cX3_does 0 = .ok (.aload_n 0, 1) := by decide +kernel
theorem dX3_does_1 : decode cX3_does 1 = .ok (.getfield 143, 3) := by decide +kernel
theorem dX3_does_4 : decode cX3_does 4 = .ok (.lookupswitch 140 #[(43, 52), (45, 68), (98, 104), (112, 84), (114, 124)], 52) := by decide +kernel
theorem dX3_does_56 : decode cX3_does 56 = .ok (.aload_n 0, 1) := by decide +kernel
theorem dX3_does_57 : decode cX3_does 57 = .ok (.aload_n 0, 1) := by decide +kernel
theorem dX3_does_58 : decode cX3_does 58 = .ok (.getfield 152, 3) := by decide +kernel
theorem dX3_does_61 : decode cX3_does 61 = .ok (.aload_n 0, 1) := by decide +kernel
theorem dX3_does_62 : decode cX3_does 62 = .ok (.getfield 161, 3) := by decide +kernel
theorem dX3_does_65 : decode cX3_does 65 = .ok (.invokevirtual 104, 3) := by decide +kernel
theorem dX3_does_68 : decode cX3_does 68 = .ok (.pop, 1) := by decide +kernel
theorem dX3_does_69 : decode cX3_does 69 = .ok (.goto 80, 3) := by decide +kernel
theorem dX3_does_72 : decode cX3_does 72 = .ok (.aload_n 0, 1) := by decide +kernel
theorem dX3_does_73 : decode cX3_does 73 = .ok (.aload_n 0, 1) := by decide +kernel
theorem dX3_does_74 : decode cX3_does 74 = .ok (.getfield 152, 3) := by decide +kernel
theorem dX3_does_77 : decode cX3_does 77 = .ok (.aload_n 0, 1) := by decide +kernel
theorem dX3_does_78 : decode cX3_does 78 = .ok (.getfield 161, 3) := by decide +kernel
theorem dX3_does_81 : decode cX3_does 81 = .ok (.invokevirtual 107, 3) := by decide +kernel
theorem dX3_does_84 : decode cX3_does 84 = .ok (.pop, 1) := by decide +kernel
theorem dX3_does_85 : decode cX3_does 85 = .ok (.goto 64, 3) := by decide +kernel
theorem dX3_does_88 : decode cX3_does 88 = .ok (.aload_n 0, 1) := by decide +kernel
theorem dX3_does_89 : decode cX3_does 89 = .ok (.aload_n 0, 1) := by decide +kernel
theorem dX3_does_90 : decode cX3_does 90 = .ok (.getfield 152, 3) := by decide +kernel
theorem dX3_does_93 : decode cX3_does 93 = .ok (.aload_n 0, 1) := by decide +kernel
theorem dX3_does_94 : decode cX3_does 94 = .ok (.getfield 155, 3) := by decide +kernel
theorem dX3_does_97 : decode cX3_does 97 = .ok (.aload_n 0, 1) := by decide +kernel
theorem dX3_does_98 : decode cX3_does 98 = .ok (.getfield 161, 3) := by decide +kernel
theorem dX3_does_101 : decode cX3_does 101 = .ok (.invokevirtual 113, 3) := by decide +kernel
theorem dX3_does_104 : decode cX3_does 104 = .ok (.pop, 1) := by decide +kernel
theorem dX3_does_105 : decode cX3_does 105 = .ok (.goto 44, 3) := by decide +kernel
theorem dX3_does_108 : decode cX3_does 108 = .ok (.aload_n 0, 1) := by decide +kernel
theorem dX3_does_109 : decode cX3_does 109 = .ok (.aload_n 0, 1) := by decide +kernel
theorem dX3_does_110 : decode cX3_does 110 = .ok (.getfield 152, 3) := by decide +kernel
theorem dX3_does_113 : decode cX3_does 113 = .ok (.aload_n 0, 1) := by decide +kernel
theorem dX3_does_114 : decode cX3_does 114 = .ok (.getfield 161, 3) := by decide +kernel
theorem dX3_does_117 : decode cX3_does 117 = .ok (.aload_n 0, 1) := by decide +kernel
theorem dX3_does_118 : decode cX3_does 118 = .ok (.getfield 164, 3) := by decide +kernel
theorem dX3_does_121 : decode cX3_does 121 = .ok (.invokevirtual 119, 3) := by decide +kernel
theorem dX3_does_124 : decode cX3_does 124 = .ok (.pop, 1) := by decide +kernel
theorem dX3_does_125 : decode cX3_does 125 = .ok (.goto 24, 3) := by decide +kernel
theorem dX3_does_128 : decode cX3_does 128 = .ok (.aload_n 0, 1) := by decide +kernel
theorem dX3_does_129 : decode cX3_does 129 = .ok (.aload_n 0, 1) := by decide +kernel
theorem dX3_does_130 : decode cX3_does 130 = .ok (.getfield 152, 3) := by decide +kernel
theorem dX3_does_133 : decode cX3_does 133 = .ok (.aload_n 0, 1) := by decide +kernel
theorem dX3_does_134 : decode cX3_does 134 = .ok (.getfield 161, 3) := by decide +kernel
theorem dX3_does_137 : decode cX3_does 137 = .ok (.invokevirtual 122, 3) := by decide +kernel
theorem dX3_does_140 : decode cX3_does 140 = .ok (.pop, 1) := by decide +kernel
theorem dX3_does_141 : decode cX3_does 141 = .ok (.goto 8, 3) := by decide +kernel
theorem dX3_does_144 : decode cX3_does 144 = .ok (.aload_n 0, 1) := by decide +kernel
theorem dX3_does_145 : decode cX3_does 145 = .ok (.invokevirtual 125, 3) := by decide +kernel
theorem dX3_does_148 : decode cX3_does 148 = .ok (.pop, 1) := by decide +kernel
theorem dX3_does_149 : decode cX3_does 149 = .ok (.return_, 1) := by decide +kernel
set_option maxRecDepth 20000 in
theorem ggX3_run_X3_areOrders : GoodIn wsX3_run wsX3_areOrders := goodIn_r _ [9, 1, 4, 10, 11, 12, 8, 13, 3, 14, 15, 16, 17, 18, 19, 20, 21, 22, 23, 24, 25, 26, 27, 28, 29, 30, 31, 32, 33, 34, 35, 36, 37, 132, 133, 134, 135, 136, 137, 138, 139, 140, 141, 142, 143, 144, 145] (by decide +kernel) (by decide +kernel)
set_option maxRecDepth 20000 in
theorem gX3_run_X3_areOrders : GoodIn wsX3_run (wsV RX3 171 RX3 yX3_areOrders wsX3_areOrders) := goodIn_app (goodIn_of _ (by decide +kernel)) ggX3_run_X3_areOrders
set_option maxRecDepth 20000 in
theorem ggX3_run_X3_holds : GoodIn wsX3_run wsX3_holds := goodIn_r _ [41, 42, 132, 133, 134, 135, 136, 137, 138, 139, 140, 141, 142, 143, 144, 145] (by decide +kernel) (by decide +kernel)
set_option maxRecDepth 20000 in
theorem gX3_run_X3_holds : GoodIn wsX3_run (wsV RX3 94 RX3 yX3_holds wsX3_holds) := goodIn_app (goodIn_of _ (by decide +kernel)) ggX3_run_X3_holds
set_option maxRecDepth 20000 in
theorem ggX3_run_X3_save : GoodIn wsX3_run wsX3_save := goodIn_r _ [46, 47, 48, 49, 50, 8, 51, 2, 132, 133, 134, 135, 136, 137, 138, 139, 140, 141, 142, 143, 144, 145] (by decide +kernel) (by decide +kernel)
set_option maxRecDepth 20000 in
theorem gX3_run_X3_save : GoodIn wsX3_run (wsV RX3 101 RX3 yX3_save wsX3_save) := goodIn_app (goodIn_of _ (by decide +kernel)) ggX3_run_X3_save
set_option maxRecDepth 20000 in
theorem ggX3_run_X3_readsOrder : GoodIn wsX3_run wsX3_readsOrder := goodIn_r _ [13, 3, 14, 15, 16, 17, 18, 19, 20, 8, 21, 1, 4, 22, 23, 24, 25, 26, 27, 28, 29, 30, 31, 32, 33, 34, 35, 36, 37, 132, 133, 134, 135, 136, 137, 138, 139, 140, 141, 142, 143, 144, 145] (by decide +kernel) (by decide +kernel)
set_option maxRecDepth 20000 in
theorem gX3_run_X3_readsOrder : GoodIn wsX3_run (wsV RX3 167 RX3 yX3_readsOrder wsX3_readsOrder) := goodIn_app (goodIn_of _ (by decide +kernel)) ggX3_run_X3_readsOrder
set_option maxRecDepth 20000 in
theorem ggX3_run_X3_does : GoodIn wsX3_run wsX3_does := goodIn_r _ [55, 3, 14, 16, 15, 17, 56, 57, 58, 8, 59, 60, 2, 61, 62, 63, 64, 65, 66, 67, 68, 69, 70, 71, 72, 73, 74, 75, 76, 77, 78, 79, 80, 81, 82, 83, 84, 85, 86, 87, 88, 89, 90, 91, 92, 93, 94, 95, 96, 97, 98, 99, 100, 101, 102, 103, 104, 105, 106, 107, 108, 109, 110, 111, 112, 113, 114, 115, 116, 117, 118, 119, 120, 121, 122, 123, 124, 125, 126, 127, 128, 129, 130, 131, 132, 133, 134, 135, 136, 137, 138, 139, 140, 141, 142, 143, 144, 145] (by decide +kernel) (by decide +kernel)
set_option maxRecDepth 20000 in
theorem gX3_run_X3_does : GoodIn wsX3_run (wsV RX3 174 RX3 yX3_does wsX3_does) := goodIn_app (goodIn_of _ (by decide +kernel)) ggX3_run_X3_does
set_option maxRecDepth 20000 in
theorem ggX3_run_X3_takesSign : GoodIn wsX3_run wsX3_takesSign := goodIn_r _ [26, 1, 18, 19, 20, 8, 21, 4, 22, 132, 133, 134, 135, 136, 137, 138, 139, 140, 141, 142, 143, 144, 145] (by decide +kernel) (by decide +kernel)
set_option maxRecDepth 20000 in
theorem gX3_run_X3_takesSign : GoodIn wsX3_run (wsV RX3 146 RX3 yX3_takesSign wsX3_takesSign) := goodIn_app (goodIn_of _ (by decide +kernel)) ggX3_run_X3_takesSign
theorem dX3_run_0 : decode cX3_run 0 = .ok (.aload_n 0, 1) := by decide +kernel
theorem dX3_run_1 : decode cX3_run 1 = .ok (.aload_n 0, 1) := by decide +kernel
theorem dX3_run_2 : decode cX3_run 2 = .ok (.invokevirtual 171, 3) := by decide +kernel
theorem dX3_run_5 : decode cX3_run 5 = .ok (.ifCond .eq 7, 3) := by decide +kernel
theorem dX3_run_8 : decode cX3_run 8 = .ok (.iconst 0, 1) := by decide +kernel
theorem dX3_run_9 : decode cX3_run 9 = .ok (.goto 4, 3) := by decide +kernel
theorem dX3_run_12 : decode cX3_run 12 = .ok (.iconst 1, 1) := by decide +kernel
theorem dX3_run_13 : decode cX3_run 13 = .ok (.invokevirtual 94, 3) := by decide +kernel
theorem dX3_run_16 : decode cX3_run 16 = .ok (.ifCond .ne 5, 3) := by decide +kernel
theorem dX3_run_19 : decode cX3_run 19 = .ok (.iconst 0, 1) := by decide +kernel
theorem dX3_run_20 : decode cX3_run 20 = .ok (.ireturn, 1) := by decide +kernel
theorem dX3_run_21 : decode cX3_run 21 = .ok (.aload_n 0, 1) := by decide +kernel
theorem dX3_run_22 : decode cX3_run 22 = .ok (.invokevirtual 101, 3) := by decide +kernel
theorem dX3_run_25 : decode cX3_run 25 = .ok (.aload_n 0, 1) := by decide +kernel
theorem dX3_run_26 : decode cX3_run 26 = .ok (.iconst 0, 1) := by decide +kernel
theorem dX3_run_27 : decode cX3_run 27 = .ok (.putfield 137, 3) := by decide +kernel
theorem dX3_run_30 : decode cX3_run 30 = .ok (.iconst 0, 1) := by decide +kernel
theorem dX3_run_31 : decode cX3_run 31 = .ok (.istore_n 1, 1) := by decide +kernel
theorem dX3_run_32 : decode cX3_run 32 = .ok (.aload_n 0, 1) := by decide +kernel
theorem dX3_run_33 : decode cX3_run 33 = .ok (.getfield 7, 3) := by decide +kernel
theorem dX3_run_36 : decode cX3_run 36 = .ok (.bipush 6, 2) := by decide +kernel
theorem dX3_run_38 : decode cX3_run 38 = .ok (.iaload, 1) := by decide +kernel
theorem dX3_run_39 : decode cX3_run 39 = .ok (.istore_n 2, 1) := by decide +kernel
theorem dX3_run_40 : decode cX3_run 40 = .ok (.aload_n 0, 1) := by decide +kernel
theorem dX3_run_41 : decode cX3_run 41 = .ok (.invokevirtual 167, 3) := by decide +kernel
theorem dX3_run_44 : decode cX3_run 44 = .ok (.istore_n 3, 1) := by decide +kernel
theorem dX3_run_45 : decode cX3_run 45 = .ok (.iload_n 3, 1) := by decide +kernel
theorem dX3_run_46 : decode cX3_run 46 = .ok (.ifCond .eq 83, 3) := by decide +kernel
theorem dX3_run_49 : decode cX3_run 49 = .ok (.aload_n 0, 1) := by decide +kernel
theorem dX3_run_50 : decode cX3_run 50 = .ok (.getfield 143, 3) := by decide +kernel
theorem dX3_run_53 : decode cX3_run 53 = .ok (.bipush 119, 2) := by decide +kernel
theorem dX3_run_55 : decode cX3_run 55 = .ok (.if_icmp .ne 15, 3) := by decide +kernel
theorem dX3_run_58 : decode cX3_run 58 = .ok (.aload_n 0, 1) := by decide +kernel
theorem dX3_run_59 : decode cX3_run 59 = .ok (.getfield 7, 3) := by decide +kernel
theorem dX3_run_62 : decode cX3_run 62 = .ok (.iconst 4, 1) := by decide +kernel
theorem dX3_run_63 : decode cX3_run 63 = .ok (.iaload, 1) := by decide +kernel
theorem dX3_run_64 : decode cX3_run 64 = .ok (.sipush 9999, 3) := by decide +kernel
theorem dX3_run_67 : decode cX3_run 67 = .ok (.if_icmp .ge 62, 3) := by decide +kernel
theorem dX3_run_70 : decode cX3_run 70 = .ok (.aload_n 0, 1) := by decide +kernel
theorem dX3_run_71 : decode cX3_run 71 = .ok (.invokevirtual 174, 3) := by decide +kernel
theorem dX3_run_74 : decode cX3_run 74 = .ok (.iload_n 1, 1) := by decide +kernel
theorem dX3_run_75 : decode cX3_run 75 = .ok (.aload_n 0, 1) := by decide +kernel
theorem dX3_run_76 : decode cX3_run 76 = .ok (.getfield 7, 3) := by decide +kernel
theorem dX3_run_79 : decode cX3_run 79 = .ok (.bipush 6, 2) := by decide +kernel
theorem dX3_run_81 : decode cX3_run 81 = .ok (.iaload, 1) := by decide +kernel
theorem dX3_run_82 : decode cX3_run 82 = .ok (.iload_n 2, 1) := by decide +kernel
theorem dX3_run_83 : decode cX3_run 83 = .ok (.if_icmp .ne 7, 3) := by decide +kernel
theorem dX3_run_86 : decode cX3_run 86 = .ok (.iconst 1, 1) := by decide +kernel
theorem dX3_run_87 : decode cX3_run 87 = .ok (.goto 4, 3) := by decide +kernel
theorem dX3_run_90 : decode cX3_run 90 = .ok (.iconst 0, 1) := by decide +kernel
theorem dX3_run_91 : decode cX3_run 91 = .ok (.iadd, 1) := by decide +kernel
theorem dX3_run_92 : decode cX3_run 92 = .ok (.istore_n 1, 1) := by decide +kernel
theorem dX3_run_93 : decode cX3_run 93 = .ok (.aload_n 0, 1) := by decide +kernel
theorem dX3_run_94 : decode cX3_run 94 = .ok (.getfield 7, 3) := by decide +kernel
theorem dX3_run_97 : decode cX3_run 97 = .ok (.bipush 6, 2) := by decide +kernel
theorem dX3_run_99 : decode cX3_run 99 = .ok (.iaload, 1) := by decide +kernel
theorem dX3_run_100 : decode cX3_run 100 = .ok (.iload_n 2, 1) := by decide +kernel
theorem dX3_run_101 : decode cX3_run 101 = .ok (.if_icmp .ne 23, 3) := by decide +kernel
theorem dX3_run_104 : decode cX3_run 104 = .ok (.aload_n 0, 1) := by decide +kernel
theorem dX3_run_105 : decode cX3_run 105 = .ok (.bipush 59, 2) := by decide +kernel
theorem dX3_run_107 : decode cX3_run 107 = .ok (.invokevirtual 146, 3) := by decide +kernel
theorem dX3_run_110 : decode cX3_run 110 = .ok (.ifCond .eq 14, 3) := by decide +kernel
theorem dX3_run_113 : decode cX3_run 113 = .ok (.aload_n 0, 1) := by decide +kernel
theorem dX3_run_114 : decode cX3_run 114 = .ok (.invokevirtual 167, 3) := by decide +kernel
theorem dX3_run_117 : decode cX3_run 117 = .ok (.ifCond .eq 7, 3) := by decide +kernel
theorem dX3_run_120 : decode cX3_run 120 = .ok (.iconst 1, 1) := by decide +kernel
theorem dX3_run_121 : decode cX3_run 121 = .ok (.goto 4, 3) := by decide +kernel
theorem dX3_run_124 : decode cX3_run 124 = .ok (.iconst 0, 1) := by decide +kernel
theorem dX3_run_125 : decode cX3_run 125 = .ok (.istore_n 3, 1) := by decide +kernel
theorem dX3_run_126 : decode cX3_run 126 = .ok (.goto (-81), 3) := by decide +kernel
theorem dX3_run_129 : decode cX3_run 129 = .ok (.aload_n 0, 1) := by decide +kernel
theorem dX3_run_130 : decode cX3_run 130 = .ok (.iconst 0, 1) := by decide +kernel
theorem dX3_run_131 : decode cX3_run 131 = .ok (.putfield 134, 3) := by decide +kernel
theorem dX3_run_134 : decode cX3_run 134 = .ok (.iload_n 1, 1) := by decide +kernel
theorem dX3_run_135 : decode cX3_run 135 = .ok (.ireturn, 1) := by decide +kernel
set_option maxRecDepth 20000 in
theorem ggX3_loans_X3_of : GoodIn wsX3_loans wsX3_of := goodIn_r _ [5, 6, 7, 8, 9, 10, 11, 12, 13, 14, 15, 16, 17, 18, 19, 20] (by decide +kernel) (by decide +kernel)
set_option maxRecDepth 20000 in
theorem gX3_loans_X3_of : GoodIn wsX3_loans (wsV RX3 35 RX3 yX3_of wsX3_of) := goodIn_app (goodIn_of _ (by decide +kernel)) ggX3_loans_X3_of
theorem dX3_loans_0 : decode cX3_loans 0 = .ok (.iconst 0, 1) := by decide +kernel
theorem dX3_loans_1 : decode cX3_loans 1 = .ok (.istore_n 1, 1) := by decide +kernel
theorem dX3_loans_2 : decode cX3_loans 2 = .ok (.iconst 0, 1) := by decide +kernel
theorem dX3_loans_3 : decode cX3_loans 3 = .ok (.istore_n 2, 1) := by decide +kernel
theorem dX3_loans_4 : decode cX3_loans 4 = .ok (.iload_n 2, 1) := by decide +kernel
theorem dX3_loans_5 : decode cX3_loans 5 = .ok (.bipush 6, 2) := by decide +kernel
theorem dX3_loans_7 : decode cX3_loans 7 = .ok (.if_icmp .ge 26, 3) := by decide +kernel
theorem dX3_loans_10 : decode cX3_loans 10 = .ok (.iload_n 1, 1) := by decide +kernel
theorem dX3_loans_11 : decode cX3_loans 11 = .ok (.aload_n 0, 1) := by decide +kernel
theorem dX3_loans_12 : decode cX3_loans 12 = .ok (.iload_n 2, 1) := by decide +kernel
theorem dX3_loans_13 : decode cX3_loans 13 = .ok (.iconst 2, 1) := by decide +kernel
theorem dX3_loans_14 : decode cX3_loans 14 = .ok (.invokevirtual 35, 3) := by decide +kernel
theorem dX3_loans_17 : decode cX3_loans 17 = .ok (.ifCond .le 7, 3) := by decide +kernel
theorem dX3_loans_20 : decode cX3_loans 20 = .ok (.iconst 1, 1) := by decide +kernel
theorem dX3_loans_21 : decode cX3_loans 21 = .ok (.goto 4, 3) := by decide +kernel
theorem dX3_loans_24 : decode cX3_loans 24 = .ok (.iconst 0, 1) := by decide +kernel
theorem dX3_loans_25 : decode cX3_loans 25 = .ok (.iadd, 1) := by decide +kernel
theorem dX3_loans_26 : decode cX3_loans 26 = .ok (.istore_n 1, 1) := by decide +kernel
theorem dX3_loans_27 : decode cX3_loans 27 = .ok (.iinc 2 1, 3) := by decide +kernel
theorem dX3_loans_30 : decode cX3_loans 30 = .ok (.goto (-26), 3) := by decide +kernel
theorem dX3_loans_33 : decode cX3_loans 33 = .ok (.iload_n 1, 1) := by decide +kernel
theorem dX3_loans_34 : decode cX3_loans 34 = .ok (.ireturn, 1) := by decide +kernel
set_option maxRecDepth 20000 in
theorem ggX3_keep_X3_in : GoodIn wsX3_keep wsX3_in := goodIn_r _ [5] (by decide +kernel) (by decide +kernel)
set_option maxRecDepth 20000 in
theorem gX3_keep_X3_in : GoodIn wsX3_keep (va_wsS RX3 27 yX3_in wsX3_in) := goodIn_app (goodIn_of _ (by decide +kernel)) ggX3_keep_X3_in
set_option maxRecDepth 20000 in
theorem ggX3_keep_X3_holds : GoodIn wsX3_keep wsX3_holds := goodIn_r _ [9, 10, 24, 25, 26, 27, 28, 29, 30, 31, 32, 33, 34, 35, 36, 37] (by decide +kernel) (by decide +kernel)
set_option maxRecDepth 20000 in
theorem gX3_keep_X3_holds : GoodIn wsX3_keep (wsV RX3 94 RX3 yX3_holds wsX3_holds) := goodIn_app (goodIn_of _ (by decide +kernel)) ggX3_keep_X3_holds
set_option maxRecDepth 20000 in
theorem ggX3_keep_X3_copies : GoodIn wsX3_keep wsX3_copies := goodIn_r _ [14, 15, 24, 25, 26, 27, 28, 29, 30, 31, 32, 33, 34, 35, 36, 37] (by decide +kernel) (by decide +kernel)
set_option maxRecDepth 20000 in
theorem gX3_keep_X3_copies : GoodIn wsX3_keep (wsV RX3 83 RX3 yX3_copies wsX3_copies) := goodIn_app (goodIn_of _ (by decide +kernel)) ggX3_keep_X3_copies
set_option maxRecDepth 20000 in
theorem ggX3_keep_X3_loans : GoodIn wsX3_keep wsX3_loans := goodIn_r _ [19, 20, 21, 22, 4, 23, 15, 24, 25, 26, 27, 28, 29, 30, 31, 32, 33, 34, 35, 36, 37] (by decide +kernel) (by decide +kernel)
set_option maxRecDepth 20000 in
theorem gX3_keep_X3_loans : GoodIn wsX3_keep (wsV RX3 177 RX3 yX3_loans wsX3_loans) := goodIn_app (goodIn_of _ (by decide +kernel)) ggX3_keep_X3_loans
theorem dX3_keep_0 : decode cX3_keep 0 = .ok (.aload_n 0, 1) := by decide +kernel
theorem dX3_keep_1 : decode cX3_keep 1 = .ok (.iload_n 1, 1) := by decide +kernel
theorem dX3_keep_2 : decode cX3_keep 2 = .ok (.iconst 0, 1) := by decide +kernel
theorem dX3_keep_3 : decode cX3_keep 3 = .ok (.iconst 1, 1) := by decide +kernel
theorem dX3_keep_4 : decode cX3_keep 4 = .ok (.invokestatic 27, 3) := by decide +kernel
theorem dX3_keep_7 : decode cX3_keep 7 = .ok (.ifCond .eq 7, 3) := by decide +kernel
theorem dX3_keep_10 : decode cX3_keep 10 = .ok (.iconst 0, 1) := by decide +kernel
theorem dX3_keep_11 : decode cX3_keep 11 = .ok (.goto 4, 3) := by decide +kernel
theorem dX3_keep_14 : decode cX3_keep 14 = .ok (.iconst 1, 1) := by decide +kernel
theorem dX3_keep_15 : decode cX3_keep 15 = .ok (.invokevirtual 94, 3) := by decide +kernel
theorem dX3_keep_18 : decode cX3_keep 18 = .ok (.ifCond .ne 5, 3) := by decide +kernel
theorem dX3_keep_21 : decode cX3_keep 21 = .ok (.iconst 0, 1) := by decide +kernel
theorem dX3_keep_22 : decode cX3_keep 22 = .ok (.ireturn, 1) := by decide +kernel
theorem dX3_keep_23 : decode cX3_keep 23 = .ok (.aload_n 0, 1) := by decide +kernel
theorem dX3_keep_24 : decode cX3_keep 24 = .ok (.iconst 0, 1) := by decide +kernel
theorem dX3_keep_25 : decode cX3_keep 25 = .ok (.bipush 7, 2) := by decide +kernel
theorem dX3_keep_27 : decode cX3_keep 27 = .ok (.iload_n 1, 1) := by decide +kernel
theorem dX3_keep_28 : decode cX3_keep 28 = .ok (.iadd, 1) := by decide +kernel
theorem dX3_keep_29 : decode cX3_keep 29 = .ok (.invokevirtual 83, 3) := by decide +kernel
theorem dX3_keep_32 : decode cX3_keep 32 = .ok (.aload_n 0, 1) := by decide +kernel
theorem dX3_keep_33 : decode cX3_keep 33 = .ok (.getfield 13, 3) := by decide +kernel
theorem dX3_keep_36 : decode cX3_keep 36 = .ok (.iload_n 1, 1) := by decide +kernel
theorem dX3_keep_37 : decode cX3_keep 37 = .ok (.iconst 1, 1) := by decide +kernel
theorem dX3_keep_38 : decode cX3_keep 38 = .ok (.bastore, 1) := by decide +kernel
theorem dX3_keep_39 : decode cX3_keep 39 = .ok (.aload_n 0, 1) := by decide +kernel
theorem dX3_keep_40 : decode cX3_keep 40 = .ok (.invokevirtual 177, 3) := by decide +kernel
theorem dX3_keep_43 : decode cX3_keep 43 = .ok (.ireturn, 1) := by decide +kernel
set_option maxRecDepth 20000 in
theorem ggX3_goBack_X3_in : GoodIn wsX3_goBack wsX3_in := goodIn_r _ [5] (by decide +kernel) (by decide +kernel)
set_option maxRecDepth 20000 in
theorem gX3_goBack_X3_in : GoodIn wsX3_goBack (va_wsS RX3 27 yX3_in wsX3_in) := goodIn_app (goodIn_of _ (by decide +kernel)) ggX3_goBack_X3_in
set_option maxRecDepth 20000 in
theorem ggX3_goBack_X3_holds : GoodIn wsX3_goBack wsX3_holds := goodIn_r _ [9, 10, 29, 30, 31, 32, 33, 34, 35, 36, 37, 38, 39, 40, 41, 42] (by decide +kernel) (by decide +kernel)
set_option maxRecDepth 20000 in
theorem gX3_goBack_X3_holds : GoodIn wsX3_goBack (wsV RX3 94 RX3 yX3_holds wsX3_holds) := goodIn_app (goodIn_of _ (by decide +kernel)) ggX3_goBack_X3_holds
set_option maxRecDepth 20000 in
theorem ggX3_goBack_X3_save : GoodIn wsX3_goBack wsX3_save := goodIn_r _ [14, 15, 16, 17, 18, 4, 19, 20, 29, 30, 31, 32, 33, 34, 35, 36, 37, 38, 39, 40, 41, 42] (by decide +kernel) (by decide +kernel)
set_option maxRecDepth 20000 in
theorem gX3_goBack_X3_save : GoodIn wsX3_goBack (wsV RX3 101 RX3 yX3_save wsX3_save) := goodIn_app (goodIn_of _ (by decide +kernel)) ggX3_goBack_X3_save
set_option maxRecDepth 20000 in
theorem ggX3_goBack_X3_copies : GoodIn wsX3_goBack wsX3_copies := goodIn_r _ [19, 20, 29, 30, 31, 32, 33, 34, 35, 36, 37, 38, 39, 40, 41, 42] (by decide +kernel) (by decide +kernel)
set_option maxRecDepth 20000 in
theorem gX3_goBack_X3_copies : GoodIn wsX3_goBack (wsV RX3 83 RX3 yX3_copies wsX3_copies) := goodIn_app (goodIn_of _ (by decide +kernel)) ggX3_goBack_X3_copies
set_option maxRecDepth 20000 in
theorem ggX3_goBack_X3_loans : GoodIn wsX3_goBack wsX3_loans := goodIn_r _ [24, 25, 26, 27, 4, 28, 20, 29, 30, 31, 32, 33, 34, 35, 36, 37, 38, 39, 40, 41, 42] (by decide +kernel) (by decide +kernel)
set_option maxRecDepth 20000 in
theorem gX3_goBack_X3_loans : GoodIn wsX3_goBack (wsV RX3 177 RX3 yX3_loans wsX3_loans) := goodIn_app (goodIn_of _ (by decide +kernel)) ggX3_goBack_X3_loans
theorem dX3_goBack_0 : decode cX3_goBack 0 = .ok (.aload_n 0, 1) := by decide +kernel
theorem dX3_goBack_1 : decode cX3_goBack 1 = .ok (.iload_n 1, 1) := by decide +kernel
theorem dX3_goBack_2 : decode cX3_goBack 2 = .ok (.iconst 0, 1) := by decide +kernel
theorem dX3_goBack_3 : decode cX3_goBack 3 = .ok (.iconst 1, 1) := by decide +kernel
theorem dX3_goBack_4 : decode cX3_goBack 4 = .ok (.invokestatic 27, 3) := by decide +kernel
theorem dX3_goBack_7 : decode cX3_goBack 7 = .ok (.ifCond .ne 7, 3) := by decide +kernel
theorem dX3_goBack_10 : decode cX3_goBack 10 = .ok (.iconst 1, 1) := by decide +kernel
theorem dX3_goBack_11 : decode cX3_goBack 11 = .ok (.goto 17, 3) := by decide +kernel
theorem dX3_goBack_14 : decode cX3_goBack 14 = .ok (.aload_n 0, 1) := by decide +kernel
theorem dX3_goBack_15 : decode cX3_goBack 15 = .ok (.getfield 13, 3) := by decide +kernel
theorem dX3_goBack_18 : decode cX3_goBack 18 = .ok (.iload_n 1, 1) := by decide +kernel
theorem dX3_goBack_19 : decode cX3_goBack 19 = .ok (.baload, 1) := by decide +kernel
theorem dX3_goBack_20 : decode cX3_goBack 20 = .ok (.ifCond .ne 7, 3) := by decide +kernel
theorem dX3_goBack_23 : decode cX3_goBack 23 = .ok (.iconst 2, 1) := by decide +kernel
theorem dX3_goBack_24 : decode cX3_goBack 24 = .ok (.goto 4, 3) := by decide +kernel
theorem dX3_goBack_27 : decode cX3_goBack 27 = .ok (.iconst 0, 1) := by decide +kernel
theorem dX3_goBack_28 : decode cX3_goBack 28 = .ok (.invokevirtual 94, 3) := by decide +kernel
theorem dX3_goBack_31 : decode cX3_goBack 31 = .ok (.ifCond .ne 5, 3) := by decide +kernel
theorem dX3_goBack_34 : decode cX3_goBack 34 = .ok (.iconst 0, 1) := by decide +kernel
theorem dX3_goBack_35 : decode cX3_goBack 35 = .ok (.ireturn, 1) := by decide +kernel
theorem dX3_goBack_36 : decode cX3_goBack 36 = .ok (.aload_n 0, 1) := by decide +kernel
theorem dX3_goBack_37 : decode cX3_goBack 37 = .ok (.invokevirtual 101, 3) := by decide +kernel
theorem dX3_goBack_40 : decode cX3_goBack 40 = .ok (.aload_n 0, 1) := by decide +kernel
theorem dX3_goBack_41 : decode cX3_goBack 41 = .ok (.bipush 7, 2) := by decide +kernel
theorem dX3_goBack_43 : decode cX3_goBack 43 = .ok (.iload_n 1, 1) := by decide +kernel
theorem dX3_goBack_44 : decode cX3_goBack 44 = .ok (.iadd, 1) := by decide +kernel
theorem dX3_goBack_45 : decode cX3_goBack 45 = .ok (.iconst 0, 1) := by decide +kernel
theorem dX3_goBack_46 : decode cX3_goBack 46 = .ok (.invokevirtual 83, 3) := by decide +kernel
theorem dX3_goBack_49 : decode cX3_goBack 49 = .ok (.aload_n 0, 1) := by decide +kernel
theorem dX3_goBack_50 : decode cX3_goBack 50 = .ok (.invokevirtual 177, 3) := by decide +kernel
theorem dX3_goBack_53 : decode cX3_goBack 53 = .ok (.ireturn, 1) := by decide +kernel
set_option maxRecDepth 20000 in
theorem ggX3_undo_X3_holds : GoodIn wsX3_undo wsX3_holds := goodIn_r _ [6, 7, 13, 14, 15, 16, 17, 18, 19, 20, 21, 22, 23, 24, 25, 26] (by decide +kernel) (by decide +kernel)
set_option maxRecDepth 20000 in
theorem gX3_undo_X3_holds : GoodIn wsX3_undo (wsV RX3 94 RX3 yX3_holds wsX3_holds) := goodIn_app (goodIn_of _ (by decide +kernel)) ggX3_undo_X3_holds
set_option maxRecDepth 20000 in
theorem ggX3_undo_X3_copies : GoodIn wsX3_undo wsX3_copies := goodIn_r _ [11, 12, 13, 14, 15, 16, 17, 18, 19, 20, 21, 22, 23, 24, 25, 26] (by decide +kernel) (by decide +kernel)
set_option maxRecDepth 20000 in
theorem gX3_undo_X3_copies : GoodIn wsX3_undo (wsV RX3 83 RX3 yX3_copies wsX3_copies) := goodIn_app (goodIn_of _ (by decide +kernel)) ggX3_undo_X3_copies
theorem dX3_undo_0 : decode cX3_undo 0 = .ok (.aload_n 0, 1) := by decide +kernel
theorem dX3_undo_1 : decode cX3_undo 1 = .ok (.aload_n 0, 1) := by decide +kernel
theorem dX3_undo_2 : decode cX3_undo 2 = .ok (.getfield 80, 3) := by decide +kernel
theorem dX3_undo_5 : decode cX3_undo 5 = .ok (.ifCond .le 7, 3) := by decide +kernel
theorem dX3_undo_8 : decode cX3_undo 8 = .ok (.iconst 0, 1) := by decide +kernel
theorem dX3_undo_9 : decode cX3_undo 9 = .ok (.goto 4, 3) := by decide +kernel
theorem dX3_undo_12 : decode cX3_undo 12 = .ok (.iconst 1, 1) := by decide +kernel
theorem dX3_undo_13 : decode cX3_undo 13 = .ok (.invokevirtual 94, 3) := by decide +kernel
theorem dX3_undo_16 : decode cX3_undo 16 = .ok (.ifCond .ne 5, 3) := by decide +kernel
theorem dX3_undo_19 : decode cX3_undo 19 = .ok (.iconst 0, 1) := by decide +kernel
theorem dX3_undo_20 : decode cX3_undo 20 = .ok (.ireturn, 1) := by decide +kernel
theorem dX3_undo_21 : decode cX3_undo 21 = .ok (.aload_n 0, 1) := by decide +kernel
theorem dX3_undo_22 : decode cX3_undo 22 = .ok (.aload_n 0, 1) := by decide +kernel
theorem dX3_undo_23 : decode cX3_undo 23 = .ok (.getfield 80, 3) := by decide +kernel
theorem dX3_undo_26 : decode cX3_undo 26 = .ok (.iconst 0, 1) := by decide +kernel
theorem dX3_undo_27 : decode cX3_undo 27 = .ok (.invokevirtual 83, 3) := by decide +kernel
theorem dX3_undo_30 : decode cX3_undo 30 = .ok (.aload_n 0, 1) := by decide +kernel
theorem dX3_undo_31 : decode cX3_undo 31 = .ok (.dup, 1) := by decide +kernel
theorem dX3_undo_32 : decode cX3_undo 32 = .ok (.getfield 80, 3) := by decide +kernel
theorem dX3_undo_35 : decode cX3_undo 35 = .ok (.iconst 1, 1) := by decide +kernel
theorem dX3_undo_36 : decode cX3_undo 36 = .ok (.isub, 1) := by decide +kernel
theorem dX3_undo_37 : decode cX3_undo 37 = .ok (.putfield 80, 3) := by decide +kernel
theorem dX3_undo_40 : decode cX3_undo 40 = .ok (.aload_n 0, 1) := by decide +kernel
theorem dX3_undo_41 : decode cX3_undo 41 = .ok (.getfield 80, 3) := by decide +kernel
theorem dX3_undo_44 : decode cX3_undo 44 = .ok (.ireturn, 1) := by decide +kernel
set_option maxRecDepth 20000 in
theorem ggX3_property_X3_of : GoodIn wsX3_property wsX3_of := goodIn_r _ [5, 6, 31, 32, 33, 34, 35, 36, 37, 38, 39, 40, 41, 42, 43, 44] (by decide +kernel) (by decide +kernel)
set_option maxRecDepth 20000 in
theorem gX3_property_X3_of : GoodIn wsX3_property (wsV RX3 35 RX3 yX3_of wsX3_of) := goodIn_app (goodIn_of _ (by decide +kernel)) ggX3_property_X3_of
set_option maxRecDepth 20000 in
theorem ggX3_property_X3_pledgedBy : GoodIn wsX3_property wsX3_pledgedBy := goodIn_r _ [10, 11, 12, 13, 4, 14, 6, 31, 32, 33, 34, 35, 36, 37, 38, 39, 40, 41, 42, 43, 44] (by decide +kernel) (by decide +kernel)
set_option maxRecDepth 20000 in
theorem gX3_property_X3_pledgedBy : GoodIn wsX3_property (wsV RX3 38 RX3 yX3_pledgedBy wsX3_pledgedBy) := goodIn_app (goodIn_of _ (by decide +kernel)) ggX3_property_X3_pledgedBy
set_option maxRecDepth 20000 in
theorem ggX3_property_X3_pledgedFor : GoodIn wsX3_property wsX3_pledgedFor := goodIn_r _ [18, 11, 12, 13, 4, 14, 6, 31, 32, 33, 34, 35, 36, 37, 38, 39, 40, 41, 42, 43, 44] (by decide +kernel) (by decide +kernel)
set_option maxRecDepth 20000 in
theorem gX3_property_X3_pledgedFor : GoodIn wsX3_property (wsV RX3 45 RX3 yX3_pledgedFor wsX3_pledgedFor) := goodIn_app (goodIn_of _ (by decide +kernel)) ggX3_property_X3_pledgedFor
set_option maxRecDepth 20000 in
theorem ggX3_property_X3_cover : GoodIn wsX3_property wsX3_cover := goodIn_r _ [22, 23, 24, 25, 4, 26, 1, 2, 3, 5, 6, 7, 8, 9, 10, 11, 12, 13, 14, 15, 16, 17, 18, 31, 32, 33, 34, 35, 36, 37, 38, 39, 40, 41, 42, 43, 44] (by decide +kernel) (by decide +kernel)
set_option maxRecDepth 20000 in
theorem gX3_property_X3_cover : GoodIn wsX3_property (wsV RX3 48 RX3 yX3_cover wsX3_cover) := goodIn_app (goodIn_of _ (by decide +kernel)) ggX3_property_X3_cover
set_option maxRecDepth 20000 in
theorem ggX3_property_X3_free : GoodIn wsX3_property wsX3_free := goodIn_r _ [30, 1, 2, 3, 4, 5, 6, 15, 16, 17, 18, 11, 12, 13, 14, 23, 24, 25, 26, 7, 8, 9, 10, 31, 32, 33, 34, 35, 36, 37, 38, 39, 40, 41, 42, 43, 44] (by decide +kernel) (by decide +kernel)
set_option maxRecDepth 20000 in
theorem gX3_property_X3_free : GoodIn wsX3_property (wsV RX3 62 RX3 yX3_free wsX3_free) := goodIn_app (goodIn_of _ (by decide +kernel)) ggX3_property_X3_free
theorem dX3_property_0 : decode cX3_property 0 = .ok (.iload_n 2, 1) := by decide +kernel
theorem dX3_property_1 : decode cX3_property 1 = .ok (.tableswitch 88 0 6 #[43, 50, 56, 62, 68, 74, 81], 43) := by decide +kernel
theorem dX3_property_44 : decode cX3_property 44 = .ok (.aload_n 0, 1) := by decide +kernel
theorem dX3_property_45 : decode cX3_property 45 = .ok (.iload_n 1, 1) := by decide +kernel
theorem dX3_property_46 : decode cX3_property 46 = .ok (.iconst 0, 1) := by decide +kernel
theorem dX3_property_47 : decode cX3_property 47 = .ok (.invokevirtual 35, 3) := by decide +kernel
theorem dX3_property_50 : decode cX3_property 50 = .ok (.ireturn, 1) := by decide +kernel
theorem dX3_property_51 : decode cX3_property 51 = .ok (.aload_n 0, 1) := by decide +kernel
theorem dX3_property_52 : decode cX3_property 52 = .ok (.iload_n 1, 1) := by decide +kernel
theorem dX3_property_53 : decode cX3_property 53 = .ok (.invokevirtual 38, 3) := by decide +kernel
theorem dX3_property_56 : decode cX3_property 56 = .ok (.ireturn, 1) := by decide +kernel
theorem dX3_property_57 : decode cX3_property 57 = .ok (.aload_n 0, 1) := by decide +kernel
theorem dX3_property_58 : decode cX3_property 58 = .ok (.iload_n 1, 1) := by decide +kernel
theorem dX3_property_59 : decode cX3_property 59 = .ok (.invokevirtual 45, 3) := by decide +kernel
theorem dX3_property_62 : decode cX3_property 62 = .ok (.ireturn, 1) := by decide +kernel
theorem dX3_property_63 : decode cX3_property 63 = .ok (.aload_n 0, 1) := by decide +kernel
theorem dX3_property_64 : decode cX3_property 64 = .ok (.iload_n 1, 1) := by decide +kernel
theorem dX3_property_65 : decode cX3_property 65 = .ok (.invokevirtual 48, 3) := by decide +kernel
theorem dX3_property_68 : decode cX3_property 68 = .ok (.ireturn, 1) := by decide +kernel
theorem dX3_property_69 : decode cX3_property 69 = .ok (.aload_n 0, 1) := by decide +kernel
theorem dX3_property_70 : decode cX3_property 70 = .ok (.iload_n 1, 1) := by decide +kernel
theorem dX3_property_71 : decode cX3_property 71 = .ok (.invokevirtual 62, 3) := by decide +kernel
theorem dX3_property_74 : decode cX3_property 74 = .ok (.ireturn, 1) := by decide +kernel
theorem dX3_property_75 : decode cX3_property 75 = .ok (.aload_n 0, 1) := by decide +kernel
theorem dX3_property_76 : decode cX3_property 76 = .ok (.iload_n 1, 1) := by decide +kernel
theorem dX3_property_77 : decode cX3_property 77 = .ok (.iconst 1, 1) := by decide +kernel
theorem dX3_property_78 : decode cX3_property 78 = .ok (.invokevirtual 35, 3) := by decide +kernel
theorem dX3_property_81 : decode cX3_property 81 = .ok (.ireturn, 1) := by decide +kernel
theorem dX3_property_82 : decode cX3_property 82 = .ok (.aload_n 0, 1) := by decide +kernel
theorem dX3_property_83 : decode cX3_property 83 = .ok (.iload_n 1, 1) := by decide +kernel
theorem dX3_property_84 : decode cX3_property 84 = .ok (.iconst 2, 1) := by decide +kernel
theorem dX3_property_85 : decode cX3_property 85 = .ok (.invokevirtual 35, 3) := by decide +kernel
theorem dX3_property_88 : decode cX3_property 88 = .ok (.ireturn, 1) := by decide +kernel
theorem dX3_property_89 : decode cX3_property 89 = .ok (.aload_n 0, 1) := by decide +kernel
theorem dX3_property_90 : decode cX3_property 90 = .ok (.iload_n 1, 1) := by decide +kernel
theorem dX3_property_91 : decode cX3_property 91 = .ok (.iconst 2, 1) := by decide +kernel
theorem dX3_property_92 : decode cX3_property 92 = .ok (.invokevirtual 35, 3) := by decide +kernel
theorem dX3_property_95 : decode cX3_property 95 = .ok (.ifCond .ne 7, 3) := by decide +kernel
theorem dX3_property_98 : decode cX3_property 98 = .ok (.iconst (-1), 1) := by decide +kernel
theorem dX3_property_99 : decode cX3_property 99 = .ok (.goto 14, 3) := by decide +kernel
theorem dX3_property_102 : decode cX3_property 102 = .ok (.aload_n 0, 1) := by decide +kernel
theorem dX3_property_103 : decode cX3_property 103 = .ok (.iload_n 1, 1) := by decide +kernel
theorem dX3_property_104 : decode cX3_property 104 = .ok (.iconst 3, 1) := by decide +kernel
theorem dX3_property_105 : decode cX3_property 105 = .ok (.iload_n 2, 1) := by decide +kernel
theorem dX3_property_106 : decode cX3_property 106 = .ok (.iadd, 1) := by decide +kernel
theorem dX3_property_107 : decode cX3_property 107 = .ok (.bipush 7, 2) := by decide +kernel
theorem dX3_property_109 : decode cX3_property 109 = .ok (.isub, 1) := by decide +kernel
theorem dX3_property_110 : decode cX3_property 110 = .ok (.invokevirtual 35, 3) := by decide +kernel
theorem dX3_property_113 : decode cX3_property 113 = .ok (.ireturn, 1) := by decide +kernel
set_option maxRecDepth 20000 in
theorem ggX3_memberOf_X3_isMember : GoodIn wsX3_memberOf wsX3_isMember := goodIn_r _ [4, 5, 6, 3, 7] (by decide +kernel) (by decide +kernel)
set_option maxRecDepth 20000 in
theorem gX3_memberOf_X3_isMember : GoodIn wsX3_memberOf (va_wsS RX3 87 yX3_isMember wsX3_isMember) := goodIn_app (goodIn_of _ (by decide +kernel)) ggX3_memberOf_X3_isMember
set_option maxRecDepth 20000 in
theorem ggX3_memberOf_X3_in : GoodIn wsX3_memberOf wsX3_in := goodIn_r _ [7] (by decide +kernel) (by decide +kernel)
set_option maxRecDepth 20000 in
theorem gX3_memberOf_X3_in : GoodIn wsX3_memberOf (va_wsS RX3 27 yX3_in wsX3_in) := goodIn_app (goodIn_of _ (by decide +kernel)) ggX3_memberOf_X3_in
set_option maxRecDepth 20000 in
theorem ggX3_memberOf_X3_holds : GoodIn wsX3_memberOf wsX3_holds := goodIn_r _ [11, 12, 46, 47, 48, 49, 50, 51, 52, 53, 54, 55, 56, 57, 58, 59] (by decide +kernel) (by decide +kernel)
set_option maxRecDepth 20000 in
theorem gX3_memberOf_X3_holds : GoodIn wsX3_memberOf (wsV RX3 94 RX3 yX3_holds wsX3_holds) := goodIn_app (goodIn_of _ (by decide +kernel)) ggX3_memberOf_X3_holds
set_option maxRecDepth 20000 in
theorem ggX3_memberOf_X3_property : GoodIn wsX3_memberOf wsX3_property := goodIn_r _ [16, 17, 18, 19, 3, 20, 21, 22, 23, 24, 25, 26, 27, 28, 29, 30, 31, 32, 33, 34, 35, 36, 37, 38, 39, 40, 41, 42, 43, 44, 45, 46, 47, 48, 49, 50, 51, 52, 53, 54, 55, 56, 57, 58, 59] (by decide +kernel) (by decide +kernel)
set_option maxRecDepth 20000 in
theorem gX3_memberOf_X3_property : GoodIn wsX3_memberOf (wsV RX3 180 RX3 yX3_property wsX3_property) := goodIn_app (goodIn_of _ (by decide +kernel)) ggX3_memberOf_X3_property
theorem dX3_memberOf_0 : decode cX3_memberOf 0 = .ok (.aload_n 0, 1) := by decide +kernel
theorem dX3_memberOf_1 : decode cX3_memberOf 1 = .ok (.iload_n 1, 1) := by decide +kernel
theorem dX3_memberOf_2 : decode cX3_memberOf 2 = .ok (.invokestatic 87, 3) := by decide +kernel
theorem dX3_memberOf_5 : decode cX3_memberOf 5 = .ok (.ifCond .ne 7, 3) := by decide +kernel
theorem dX3_memberOf_8 : decode cX3_memberOf 8 = .ok (.iconst 1, 1) := by decide +kernel
theorem dX3_memberOf_9 : decode cX3_memberOf 9 = .ok (.goto 18, 3) := by decide +kernel
theorem dX3_memberOf_12 : decode cX3_memberOf 12 = .ok (.iload_n 2, 1) := by decide +kernel
theorem dX3_memberOf_13 : decode cX3_memberOf 13 = .ok (.iconst 0, 1) := by decide +kernel
theorem dX3_memberOf_14 : decode cX3_memberOf 14 = .ok (.bipush 9, 2) := by decide +kernel
theorem dX3_memberOf_16 : decode cX3_memberOf 16 = .ok (.invokestatic 27, 3) := by decide +kernel
theorem dX3_memberOf_19 : decode cX3_memberOf 19 = .ok (.ifCond .ne 7, 3) := by decide +kernel
theorem dX3_memberOf_22 : decode cX3_memberOf 22 = .ok (.iconst 2, 1) := by decide +kernel
theorem dX3_memberOf_23 : decode cX3_memberOf 23 = .ok (.goto 4, 3) := by decide +kernel
theorem dX3_memberOf_26 : decode cX3_memberOf 26 = .ok (.iconst 0, 1) := by decide +kernel
theorem dX3_memberOf_27 : decode cX3_memberOf 27 = .ok (.invokevirtual 94, 3) := by decide +kernel
theorem dX3_memberOf_30 : decode cX3_memberOf 30 = .ok (.ifCond .eq 12, 3) := by decide +kernel
theorem dX3_memberOf_33 : decode cX3_memberOf 33 = .ok (.aload_n 0, 1) := by decide +kernel
theorem dX3_memberOf_34 : decode cX3_memberOf 34 = .ok (.iload_n 1, 1) := by decide +kernel
theorem dX3_memberOf_35 : decode cX3_memberOf 35 = .ok (.iload_n 2, 1) := by decide +kernel
theorem dX3_memberOf_36 : decode cX3_memberOf 36 = .ok (.invokevirtual 180, 3) := by decide +kernel
theorem dX3_memberOf_39 : decode cX3_memberOf 39 = .ok (.goto 4, 3) := by decide +kernel
theorem dX3_memberOf_42 : decode cX3_memberOf 42 = .ok (.iconst 0, 1) := by decide +kernel
theorem dX3_memberOf_43 : decode cX3_memberOf 43 = .ok (.ireturn, 1) := by decide +kernel
set_option maxRecDepth 20000 in
theorem ggX3_pledged_X3_isMember : GoodIn wsX3_pledged wsX3_isMember := goodIn_r _ [4, 5, 6, 3, 7] (by decide +kernel) (by decide +kernel)
set_option maxRecDepth 20000 in
theorem gX3_pledged_X3_isMember : GoodIn wsX3_pledged (va_wsS RX3 87 yX3_isMember wsX3_isMember) := goodIn_app (goodIn_of _ (by decide +kernel)) ggX3_pledged_X3_isMember
set_option maxRecDepth 20000 in
theorem ggX3_pledged_X3_holds : GoodIn wsX3_pledged wsX3_holds := goodIn_r _ [11, 12, 18, 19, 20, 21, 22, 23, 24, 25, 26, 27, 28, 29, 30, 31] (by decide +kernel) (by decide +kernel)
set_option maxRecDepth 20000 in
theorem gX3_pledged_X3_holds : GoodIn wsX3_pledged (wsV RX3 94 RX3 yX3_holds wsX3_holds) := goodIn_app (goodIn_of _ (by decide +kernel)) ggX3_pledged_X3_holds
set_option maxRecDepth 20000 in
theorem ggX3_pledged_X3_pledgeOf : GoodIn wsX3_pledged wsX3_pledgeOf := goodIn_r _ [16, 17, 18, 19, 20, 21, 22, 23, 24, 25, 26, 27, 28, 29, 30, 31] (by decide +kernel) (by decide +kernel)
set_option maxRecDepth 20000 in
theorem gX3_pledged_X3_pledgeOf : GoodIn wsX3_pledged (wsV RX3 31 RX3 yX3_pledgeOf wsX3_pledgeOf) := goodIn_app (goodIn_of _ (by decide +kernel)) ggX3_pledged_X3_pledgeOf
theorem dX3_pledged_0 : decode cX3_pledged 0 = .ok (.aload_n 0, 1) := by decide +kernel
theorem dX3_pledged_1 : decode cX3_pledged 1 = .ok (.iload_n 1, 1) := by decide +kernel
theorem dX3_pledged_2 : decode cX3_pledged 2 = .ok (.invokestatic 87, 3) := by decide +kernel
theorem dX3_pledged_5 : decode cX3_pledged 5 = .ok (.ifCond .eq 14, 3) := by decide +kernel
theorem dX3_pledged_8 : decode cX3_pledged 8 = .ok (.iload_n 2, 1) := by decide +kernel
theorem dX3_pledged_9 : decode cX3_pledged 9 = .ok (.invokestatic 87, 3) := by decide +kernel
theorem dX3_pledged_12 : decode cX3_pledged 12 = .ok (.ifCond .eq 7, 3) := by decide +kernel
theorem dX3_pledged_15 : decode cX3_pledged 15 = .ok (.iconst 0, 1) := by decide +kernel
theorem dX3_pledged_16 : decode cX3_pledged 16 = .ok (.goto 4, 3) := by decide +kernel
theorem dX3_pledged_19 : decode cX3_pledged 19 = .ok (.iconst 1, 1) := by decide +kernel
theorem dX3_pledged_20 : decode cX3_pledged 20 = .ok (.invokevirtual 94, 3) := by decide +kernel
theorem dX3_pledged_23 : decode cX3_pledged 23 = .ok (.ifCond .eq 12, 3) := by decide +kernel
theorem dX3_pledged_26 : decode cX3_pledged 26 = .ok (.aload_n 0, 1) := by decide +kernel
theorem dX3_pledged_27 : decode cX3_pledged 27 = .ok (.iload_n 1, 1) := by decide +kernel
theorem dX3_pledged_28 : decode cX3_pledged 28 = .ok (.iload_n 2, 1) := by decide +kernel
theorem dX3_pledged_29 : decode cX3_pledged 29 = .ok (.invokevirtual 31, 3) := by decide +kernel
theorem dX3_pledged_32 : decode cX3_pledged 32 = .ok (.goto 4, 3) := by decide +kernel
theorem dX3_pledged_35 : decode cX3_pledged 35 = .ok (.iconst 0, 1) := by decide +kernel
theorem dX3_pledged_36 : decode cX3_pledged 36 = .ok (.ireturn, 1) := by decide +kernel
set_option maxRecDepth 20000 in
theorem ggX3_total_X3_of : GoodIn wsX3_total wsX3_of := goodIn_r _ [5, 6, 7, 8, 9, 10, 11, 12, 13, 14, 15, 16, 17, 18, 19, 20] (by decide +kernel) (by decide +kernel)
set_option maxRecDepth 20000 in
theorem gX3_total_X3_of : GoodIn wsX3_total (wsV RX3 35 RX3 yX3_of wsX3_of) := goodIn_app (goodIn_of _ (by decide +kernel)) ggX3_total_X3_of
theorem dX3_total_0 : decode cX3_total 0 = .ok (.iconst 0, 1) := by decide +kernel
theorem dX3_total_1 : decode cX3_total 1 = .ok (.istore_n 2, 1) := by decide +kernel
theorem dX3_total_2 : decode cX3_total 2 = .ok (.iconst 0, 1) := by decide +kernel
theorem dX3_total_3 : decode cX3_total 3 = .ok (.istore_n 3, 1) := by decide +kernel
theorem dX3_total_4 : decode cX3_total 4 = .ok (.iload_n 3, 1) := by decide +kernel
theorem dX3_total_5 : decode cX3_total 5 = .ok (.bipush 6, 2) := by decide +kernel
theorem dX3_total_7 : decode cX3_total 7 = .ok (.if_icmp .ge 18, 3) := by decide +kernel
theorem dX3_total_10 : decode cX3_total 10 = .ok (.iload_n 2, 1) := by decide +kernel
theorem dX3_total_11 : decode cX3_total 11 = .ok (.aload_n 0, 1) := by decide +kernel
theorem dX3_total_12 : decode cX3_total 12 = .ok (.iload_n 3, 1) := by decide +kernel
theorem dX3_total_13 : decode cX3_total 13 = .ok (.iload_n 1, 1) := by decide +kernel
theorem dX3_total_14 : decode cX3_total 14 = .ok (.invokevirtual 35, 3) := by decide +kernel
theorem dX3_total_17 : decode cX3_total 17 = .ok (.iadd, 1) := by decide +kernel
theorem dX3_total_18 : decode cX3_total 18 = .ok (.istore_n 2, 1) := by decide +kernel
theorem dX3_total_19 : decode cX3_total 19 = .ok (.iinc 3 1, 3) := by decide +kernel
theorem dX3_total_22 : decode cX3_total 22 = .ok (.goto (-18), 3) := by decide +kernel
theorem dX3_total_25 : decode cX3_total 25 = .ok (.iload_n 2, 1) := by decide +kernel
theorem dX3_total_26 : decode cX3_total 26 = .ok (.ireturn, 1) := by decide +kernel
set_option maxRecDepth 20000 in
theorem ggX3_counted_X3_total : GoodIn wsX3_counted wsX3_total := goodIn_r _ [7, 8, 9, 10, 6, 11, 1, 16, 17, 18, 19, 20, 21, 22, 23, 24, 25, 26, 27, 28, 29] (by decide +kernel) (by decide +kernel)
set_option maxRecDepth 20000 in
theorem gX3_counted_X3_total : GoodIn wsX3_counted (wsV RX3 183 RX3 yX3_total wsX3_total) := goodIn_app (goodIn_of _ (by decide +kernel)) ggX3_counted_X3_total
set_option maxRecDepth 20000 in
theorem ggX3_counted_X3_loans : GoodIn wsX3_counted wsX3_loans := goodIn_r _ [15, 8, 9, 10, 6, 11, 1, 16, 17, 18, 19, 20, 21, 22, 23, 24, 25, 26, 27, 28, 29] (by decide +kernel) (by decide +kernel)
set_option maxRecDepth 20000 in
theorem gX3_counted_X3_loans : GoodIn wsX3_counted (wsV RX3 177 RX3 yX3_loans wsX3_loans) := goodIn_app (goodIn_of _ (by decide +kernel)) ggX3_counted_X3_loans
theorem dX3_counted_0 : decode cX3_counted 0 = .ok (.iload_n 1, 1) := by decide +kernel
theorem dX3_counted_1 : decode cX3_counted 1 = .ok (.tableswitch 92 0 11 #[63, 63, 70, 76, 82, 92, 92, 92, 92, 92, 92, 87], 63) := by decide +kernel
theorem dX3_counted_64 : decode cX3_counted 64 = .ok (.aload_n 0, 1) := by decide +kernel
theorem dX3_counted_65 : decode cX3_counted 65 = .ok (.getfield 7, 3) := by decide +kernel
theorem dX3_counted_68 : decode cX3_counted 68 = .ok (.iload_n 1, 1) := by decide +kernel
theorem dX3_counted_69 : decode cX3_counted 69 = .ok (.iaload, 1) := by decide +kernel
theorem dX3_counted_70 : decode cX3_counted 70 = .ok (.ireturn, 1) := by decide +kernel
theorem dX3_counted_71 : decode cX3_counted 71 = .ok (.aload_n 0, 1) := by decide +kernel
theorem dX3_counted_72 : decode cX3_counted 72 = .ok (.iconst 0, 1) := by decide +kernel
theorem dX3_counted_73 : decode cX3_counted 73 = .ok (.invokevirtual 183, 3) := by decide +kernel
theorem dX3_counted_76 : decode cX3_counted 76 = .ok (.ireturn, 1) := by decide +kernel
theorem dX3_counted_77 : decode cX3_counted 77 = .ok (.aload_n 0, 1) := by decide +kernel
theorem dX3_counted_78 : decode cX3_counted 78 = .ok (.iconst 2, 1) := by decide +kernel
theorem dX3_counted_79 : decode cX3_counted 79 = .ok (.invokevirtual 183, 3) := by decide +kernel
theorem dX3_counted_82 : decode cX3_counted 82 = .ok (.ireturn, 1) := by decide +kernel
theorem dX3_counted_83 : decode cX3_counted 83 = .ok (.aload_n 0, 1) := by decide +kernel
theorem dX3_counted_84 : decode cX3_counted 84 = .ok (.invokevirtual 177, 3) := by decide +kernel
theorem dX3_counted_87 : decode cX3_counted 87 = .ok (.ireturn, 1) := by decide +kernel
theorem dX3_counted_88 : decode cX3_counted 88 = .ok (.aload_n 0, 1) := by decide +kernel
theorem dX3_counted_89 : decode cX3_counted 89 = .ok (.getfield 80, 3) := by decide +kernel
theorem dX3_counted_92 : decode cX3_counted 92 = .ok (.ireturn, 1) := by decide +kernel
theorem dX3_counted_93 : decode cX3_counted 93 = .ok (.aload_n 0, 1) := by decide +kernel
theorem dX3_counted_94 : decode cX3_counted 94 = .ok (.getfield 7, 3) := by decide +kernel
theorem dX3_counted_97 : decode cX3_counted 97 = .ok (.iconst 2, 1) := by decide +kernel
theorem dX3_counted_98 : decode cX3_counted 98 = .ok (.iload_n 1, 1) := by decide +kernel
theorem dX3_counted_99 : decode cX3_counted 99 = .ok (.iadd, 1) := by decide +kernel
theorem dX3_counted_100 : decode cX3_counted 100 = .ok (.iconst 5, 1) := by decide +kernel
theorem dX3_counted_101 : decode cX3_counted 101 = .ok (.isub, 1) := by decide +kernel
theorem dX3_counted_102 : decode cX3_counted 102 = .ok (.iaload, 1) := by decide +kernel
theorem dX3_counted_103 : decode cX3_counted 103 = .ok (.ireturn, 1) := by decide +kernel
set_option maxRecDepth 20000 in
theorem ggX3_count_X3_in : GoodIn wsX3_count wsX3_in := goodIn_r _ [4] (by decide +kernel) (by decide +kernel)
set_option maxRecDepth 20000 in
theorem gX3_count_X3_in : GoodIn wsX3_count (va_wsS RX3 27 yX3_in wsX3_in) := goodIn_app (goodIn_of _ (by decide +kernel)) ggX3_count_X3_in
set_option maxRecDepth 20000 in
theorem ggX3_count_X3_holds : GoodIn wsX3_count wsX3_holds := goodIn_r _ [8, 9, 28, 29, 30, 31, 32, 33, 34, 35, 36, 37, 38, 39, 40, 41] (by decide +kernel) (by decide +kernel)
set_option maxRecDepth 20000 in
theorem gX3_count_X3_holds : GoodIn wsX3_count (wsV RX3 94 RX3 yX3_holds wsX3_holds) := goodIn_app (goodIn_of _ (by decide +kernel)) ggX3_count_X3_holds
set_option maxRecDepth 20000 in
theorem ggX3_count_X3_counted : GoodIn wsX3_count wsX3_counted := goodIn_r _ [13, 14, 15, 16, 17, 18, 3, 19, 20, 21, 22, 23, 24, 25, 26, 27, 28, 29, 30, 31, 32, 33, 34, 35, 36, 37, 38, 39, 40, 41] (by decide +kernel) (by decide +kernel)
set_option maxRecDepth 20000 in
theorem gX3_count_X3_counted : GoodIn wsX3_count (wsV RX3 186 RX3 yX3_counted wsX3_counted) := goodIn_app (goodIn_of _ (by decide +kernel)) ggX3_count_X3_counted
theorem dX3_count_0 : decode cX3_count 0 = .ok (.aload_n 0, 1) := by decide +kernel
theorem dX3_count_1 : decode cX3_count 1 = .ok (.iload_n 1, 1) := by decide +kernel
theorem dX3_count_2 : decode cX3_count 2 = .ok (.iconst 0, 1) := by decide +kernel
theorem dX3_count_3 : decode cX3_count 3 = .ok (.bipush 11, 2) := by decide +kernel
theorem dX3_count_5 : decode cX3_count 5 = .ok (.invokestatic 27, 3) := by decide +kernel
theorem dX3_count_8 : decode cX3_count 8 = .ok (.ifCond .eq 7, 3) := by decide +kernel
theorem dX3_count_11 : decode cX3_count 11 = .ok (.iconst 0, 1) := by decide +kernel
theorem dX3_count_12 : decode cX3_count 12 = .ok (.goto 4, 3) := by decide +kernel
theorem dX3_count_15 : decode cX3_count 15 = .ok (.iconst 1, 1) := by decide +kernel
theorem dX3_count_16 : decode cX3_count 16 = .ok (.invokevirtual 94, 3) := by decide +kernel
theorem dX3_count_19 : decode cX3_count 19 = .ok (.ifCond .eq 11, 3) := by decide +kernel
theorem dX3_count_22 : decode cX3_count 22 = .ok (.aload_n 0, 1) := by decide +kernel
theorem dX3_count_23 : decode cX3_count 23 = .ok (.iload_n 1, 1) := by decide +kernel
theorem dX3_count_24 : decode cX3_count 24 = .ok (.invokevirtual 186, 3) := by decide +kernel
theorem dX3_count_27 : decode cX3_count 27 = .ok (.goto 4, 3) := by decide +kernel
theorem dX3_count_30 : decode cX3_count 30 = .ok (.iconst 0, 1) := by decide +kernel
theorem dX3_count_31 : decode cX3_count 31 = .ok (.ireturn, 1) := by decide +kernel
set_option maxRecDepth 20000 in
theorem ggX3_setting_X3_in : GoodIn wsX3_setting wsX3_in := goodIn_r _ [5] (by decide +kernel) (by decide +kernel)
set_option maxRecDepth 20000 in
theorem gX3_setting_X3_in : GoodIn wsX3_setting (va_wsS RX3 27 yX3_in wsX3_in) := goodIn_app (goodIn_of _ (by decide +kernel)) ggX3_setting_X3_in
set_option maxRecDepth 20000 in
theorem ggX3_setting_X3_holds : GoodIn wsX3_setting wsX3_holds := goodIn_r _ [9, 10, 11, 12, 13, 14, 15, 16, 17, 18, 19, 20, 21, 22, 23, 24] (by decide +kernel) (by decide +kernel)
set_option maxRecDepth 20000 in
theorem gX3_setting_X3_holds : GoodIn wsX3_setting (wsV RX3 94 RX3 yX3_holds wsX3_holds) := goodIn_app (goodIn_of _ (by decide +kernel)) ggX3_setting_X3_holds
theorem dX3_setting_0 : decode cX3_setting 0 = .ok (.aload_n 0, 1) := by decide +kernel
theorem dX3_setting_1 : decode cX3_setting 1 = .ok (.iload_n 1, 1) := by decide +kernel
theorem dX3_setting_2 : decode cX3_setting 2 = .ok (.iconst 0, 1) := by decide +kernel
theorem dX3_setting_3 : decode cX3_setting 3 = .ok (.iconst 1, 1) := by decide +kernel
theorem dX3_setting_4 : decode cX3_setting 4 = .ok (.invokestatic 27, 3) := by decide +kernel
theorem dX3_setting_7 : decode cX3_setting 7 = .ok (.ifCond .eq 7, 3) := by decide +kernel
theorem dX3_setting_10 : decode cX3_setting 10 = .ok (.iconst 0, 1) := by decide +kernel
theorem dX3_setting_11 : decode cX3_setting 11 = .ok (.goto 4, 3) := by decide +kernel
theorem dX3_setting_14 : decode cX3_setting 14 = .ok (.iconst 1, 1) := by decide +kernel
theorem dX3_setting_15 : decode cX3_setting 15 = .ok (.invokevirtual 94, 3) := by decide +kernel
theorem dX3_setting_18 : decode cX3_setting 18 = .ok (.ifCond .eq 15, 3) := by decide +kernel
theorem dX3_setting_21 : decode cX3_setting 21 = .ok (.aload_n 0, 1) := by decide +kernel
theorem dX3_setting_22 : decode cX3_setting 22 = .ok (.getfield 7, 3) := by decide +kernel
theorem dX3_setting_25 : decode cX3_setting 25 = .ok (.bipush 8, 2) := by decide +kernel
theorem dX3_setting_27 : decode cX3_setting 27 = .ok (.iload_n 1, 1) := by decide +kernel
theorem dX3_setting_28 : decode cX3_setting 28 = .ok (.iadd, 1) := by decide +kernel
theorem dX3_setting_29 : decode cX3_setting 29 = .ok (.iaload, 1) := by decide +kernel
theorem dX3_setting_30 : decode cX3_setting 30 = .ok (.goto 4, 3) := by decide +kernel
theorem dX3_setting_33 : decode cX3_setting 33 = .ok (.iconst 0, 1) := by decide +kernel
theorem dX3_setting_34 : decode cX3_setting 34 = .ok (.ireturn, 1) := by decide +kernel
set_option maxRecDepth 20000 in
theorem ggX3_whyNot_X3_isDeed : GoodIn wsX3_whyNot wsX3_isDeed := goodIn_r _ [5, 6, 7, 4, 8, 9, 10, 11, 12, 13, 14, 15, 16, 17, 18, 19, 52, 53, 54, 55, 56, 57, 58, 59, 60, 61, 62, 63, 64, 65] (by decide +kernel) (by decide +kernel)
set_option maxRecDepth 20000 in
theorem gX3_whyNot_X3_isDeed : GoodIn wsX3_whyNot (wsV RX3 97 RX3 yX3_isDeed wsX3_isDeed) := goodIn_app (goodIn_of _ (by decide +kernel)) ggX3_whyNot_X3_isDeed
set_option maxRecDepth 20000 in
theorem ggX3_whyNot_X3_reason : GoodIn wsX3_whyNot wsX3_reason := goodIn_r _ [23, 24, 25, 26, 27, 4, 28, 29, 30, 31, 32, 33, 34, 35, 36, 37, 38, 39, 40, 41, 42, 43, 44, 45, 46, 47, 48, 49, 50, 51, 52, 53, 54, 55, 56, 57, 58, 59, 60, 61, 62, 63, 64, 65] (by decide +kernel) (by decide +kernel)
set_option maxRecDepth 20000 in
theorem gX3_whyNot_X3_reason : GoodIn wsX3_whyNot (wsV RX3 65 RX3 yX3_reason wsX3_reason) := goodIn_app (goodIn_of _ (by decide +kernel)) ggX3_whyNot_X3_reason
theorem dX3_whyNot_0 : decode cX3_whyNot 0 = .ok (.aload_n 0, 1) := by decide +kernel
theorem dX3_whyNot_1 : decode cX3_whyNot 1 = .ok (.iload_n 1, 1) := by decide +kernel
theorem dX3_whyNot_2 : decode cX3_whyNot 2 = .ok (.iload_n 2, 1) := by decide +kernel
theorem dX3_whyNot_3 : decode cX3_whyNot 3 = .ok (.invokevirtual 97, 3) := by decide +kernel
theorem dX3_whyNot_6 : decode cX3_whyNot 6 = .ok (.ifCond .eq 12, 3) := by decide +kernel
theorem dX3_whyNot_9 : decode cX3_whyNot 9 = .ok (.aload_n 0, 1) := by decide +kernel
theorem dX3_whyNot_10 : decode cX3_whyNot 10 = .ok (.iload_n 1, 1) := by decide +kernel
theorem dX3_whyNot_11 : decode cX3_whyNot 11 = .ok (.iload_n 2, 1) := by decide +kernel
theorem dX3_whyNot_12 : decode cX3_whyNot 12 = .ok (.invokevirtual 65, 3) := by decide +kernel
theorem dX3_whyNot_15 : decode cX3_whyNot 15 = .ok (.goto 4, 3) := by decide +kernel
theorem dX3_whyNot_18 : decode cX3_whyNot 18 = .ok (.iconst 0, 1) := by decide +kernel
theorem dX3_whyNot_19 : decode cX3_whyNot 19 = .ok (.ireturn, 1) := by decide +kernel
set_option maxRecDepth 20000 in
theorem ggX3_most_X3_reason : GoodIn wsX3_most wsX3_reason := goodIn_r _ [5, 6, 7, 8, 9, 4, 10, 11, 12, 13, 14, 15, 16, 17, 18, 19, 20, 21, 22, 23, 24, 25, 26, 27, 28, 29, 30, 31, 32, 33, 34, 35, 36, 37, 38, 39, 40, 41, 42, 43, 44, 45, 46, 47] (by decide +kernel) (by decide +kernel)
set_option maxRecDepth 20000 in
theorem gX3_most_X3_reason : GoodIn wsX3_most (wsV RX3 65 RX3 yX3_reason wsX3_reason) := goodIn_app (goodIn_of _ (by decide +kernel)) ggX3_most_X3_reason
theorem dX3_most_0 : decode cX3_most 0 = .ok (.sipush 9999, 3) := by decide +kernel
theorem dX3_most_3 : decode cX3_most 3 = .ok (.istore_n 2, 1) := by decide +kernel
theorem dX3_most_4 : decode cX3_most 4 = .ok (.iload_n 2, 1) := by decide +kernel
theorem dX3_most_5 : decode cX3_most 5 = .ok (.ifCond .le 18, 3) := by decide +kernel
theorem dX3_most_8 : decode cX3_most 8 = .ok (.aload_n 0, 1) := by decide +kernel
theorem dX3_most_9 : decode cX3_most 9 = .ok (.iload_n 1, 1) := by decide +kernel
theorem dX3_most_10 : decode cX3_most 10 = .ok (.iload_n 2, 1) := by decide +kernel
theorem dX3_most_11 : decode cX3_most 11 = .ok (.invokevirtual 65, 3) := by decide +kernel
theorem dX3_most_14 : decode cX3_most 14 = .ok (.ifCond .le 9, 3) := by decide +kernel
theorem dX3_most_17 : decode cX3_most 17 = .ok (.iinc 2 (-1), 3) := by decide +kernel
theorem dX3_most_20 : decode cX3_most 20 = .ok (.goto (-16), 3) := by decide +kernel
theorem dX3_most_23 : decode cX3_most 23 = .ok (.iload_n 2, 1) := by decide +kernel
theorem dX3_most_24 : decode cX3_most 24 = .ok (.ireturn, 1) := by decide +kernel
set_option maxRecDepth 20000 in
theorem ggX3_greatest_X3_isMember : GoodIn wsX3_greatest wsX3_isMember := goodIn_r _ [4, 5, 6, 3, 7] (by decide +kernel) (by decide +kernel)
set_option maxRecDepth 20000 in
theorem gX3_greatest_X3_isMember : GoodIn wsX3_greatest (va_wsS RX3 87 yX3_isMember wsX3_isMember) := goodIn_app (goodIn_of _ (by decide +kernel)) ggX3_greatest_X3_isMember
set_option maxRecDepth 20000 in
theorem ggX3_greatest_X3_in : GoodIn wsX3_greatest wsX3_in := goodIn_r _ [7] (by decide +kernel) (by decide +kernel)
set_option maxRecDepth 20000 in
theorem gX3_greatest_X3_in : GoodIn wsX3_greatest (va_wsS RX3 27 yX3_in wsX3_in) := goodIn_app (goodIn_of _ (by decide +kernel)) ggX3_greatest_X3_in
set_option maxRecDepth 20000 in
theorem ggX3_greatest_X3_holds : GoodIn wsX3_greatest wsX3_holds := goodIn_r _ [11, 12, 49, 50, 51, 52, 53, 54, 55, 56, 57, 58, 59, 60, 61, 62] (by decide +kernel) (by decide +kernel)
set_option maxRecDepth 20000 in
theorem gX3_greatest_X3_holds : GoodIn wsX3_greatest (wsV RX3 94 RX3 yX3_holds wsX3_holds) := goodIn_app (goodIn_of _ (by decide +kernel)) ggX3_greatest_X3_holds
set_option maxRecDepth 20000 in
theorem ggX3_greatest_X3_most : GoodIn wsX3_greatest wsX3_most := goodIn_r _ [16, 17, 18, 19, 3, 20, 21, 22, 23, 24, 25, 26, 27, 28, 29, 30, 31, 32, 33, 34, 35, 36, 37, 38, 39, 40, 41, 42, 43, 44, 45, 46, 47, 48, 49, 50, 51, 52, 53, 54, 55, 56, 57, 58, 59, 60, 61, 62] (by decide +kernel) (by decide +kernel)
set_option maxRecDepth 20000 in
theorem gX3_greatest_X3_most : GoodIn wsX3_greatest (wsV RX3 189 RX3 yX3_most wsX3_most) := goodIn_app (goodIn_of _ (by decide +kernel)) ggX3_greatest_X3_most
theorem dX3_greatest_0 : decode cX3_greatest 0 = .ok (.aload_n 0, 1) := by decide +kernel
theorem dX3_greatest_1 : decode cX3_greatest 1 = .ok (.iload_n 1, 1) := by decide +kernel
theorem dX3_greatest_2 : decode cX3_greatest 2 = .ok (.invokestatic 87, 3) := by decide +kernel
theorem dX3_greatest_5 : decode cX3_greatest 5 = .ok (.ifCond .ne 7, 3) := by decide +kernel
theorem dX3_greatest_8 : decode cX3_greatest 8 = .ok (.iconst 1, 1) := by decide +kernel
theorem dX3_greatest_9 : decode cX3_greatest 9 = .ok (.goto 17, 3) := by decide +kernel
theorem dX3_greatest_12 : decode cX3_greatest 12 = .ok (.iload_n 2, 1) := by decide +kernel
theorem dX3_greatest_13 : decode cX3_greatest 13 = .ok (.iconst 0, 1) := by decide +kernel
theorem dX3_greatest_14 : decode cX3_greatest 14 = .ok (.iconst 1, 1) := by decide +kernel
theorem dX3_greatest_15 : decode cX3_greatest 15 = .ok (.invokestatic 27, 3) := by decide +kernel
theorem dX3_greatest_18 : decode cX3_greatest 18 = .ok (.ifCond .ne 7, 3) := by decide +kernel
theorem dX3_greatest_21 : decode cX3_greatest 21 = .ok (.iconst 2, 1) := by decide +kernel
theorem dX3_greatest_22 : decode cX3_greatest 22 = .ok (.goto 4, 3) := by decide +kernel
theorem dX3_greatest_25 : decode cX3_greatest 25 = .ok (.iconst 0, 1) := by decide +kernel
theorem dX3_greatest_26 : decode cX3_greatest 26 = .ok (.invokevirtual 94, 3) := by decide +kernel
theorem dX3_greatest_29 : decode cX3_greatest 29 = .ok (.ifCond .eq 11, 3) := by decide +kernel
theorem dX3_greatest_32 : decode cX3_greatest 32 = .ok (.aload_n 0, 1) := by decide +kernel
theorem dX3_greatest_33 : decode cX3_greatest 33 = .ok (.iload_n 1, 1) := by decide +kernel
theorem dX3_greatest_34 : decode cX3_greatest 34 = .ok (.invokevirtual 189, 3) := by decide +kernel
theorem dX3_greatest_37 : decode cX3_greatest 37 = .ok (.goto 4, 3) := by decide +kernel
theorem dX3_greatest_40 : decode cX3_greatest 40 = .ok (.iconst 0, 1) := by decide +kernel
theorem dX3_greatest_41 : decode cX3_greatest 41 = .ok (.ireturn, 1) := by decide +kernel
set_option maxRecDepth 20000 in
theorem ggX3_fewest_X3_free : GoodIn wsX3_fewest wsX3_free := goodIn_r _ [6, 7, 8, 9, 5, 10, 11, 12, 13, 14, 15, 16, 17, 18, 19, 20, 21, 22, 23, 24, 25, 26, 27, 32, 33, 34, 35, 36, 37, 38, 39, 40, 41, 42, 43, 44, 45] (by decide +kernel) (by decide +kernel)
set_option maxRecDepth 20000 in
theorem gX3_fewest_X3_free : GoodIn wsX3_fewest (wsV RX3 62 RX3 yX3_free wsX3_free) := goodIn_app (goodIn_of _ (by decide +kernel)) ggX3_fewest_X3_free
set_option maxRecDepth 20000 in
theorem ggX3_fewest_X3_cover : GoodIn wsX3_fewest wsX3_cover := goodIn_r _ [31, 20, 21, 22, 5, 23, 7, 8, 9, 10, 11, 24, 25, 26, 27, 16, 17, 18, 19, 12, 13, 14, 15, 32, 33, 34, 35, 36, 37, 38, 39, 40, 41, 42, 43, 44, 45] (by decide +kernel) (by decide +kernel)
set_option maxRecDepth 20000 in
theorem gX3_fewest_X3_cover : GoodIn wsX3_fewest (wsV RX3 48 RX3 yX3_cover wsX3_cover) := goodIn_app (goodIn_of _ (by decide +kernel)) ggX3_fewest_X3_cover
theorem dX3_fewest_0 : decode cX3_fewest 0 = .ok (.iconst 0, 1) := by decide +kernel
theorem dX3_fewest_1 : decode cX3_fewest 1 = .ok (.istore_n 3, 1) := by decide +kernel
theorem dX3_fewest_2 : decode cX3_fewest 2 = .ok (.iload_n 3, 1) := by decide +kernel
theorem dX3_fewest_3 : decode cX3_fewest 3 = .ok (.bipush 6, 2) := by decide +kernel
theorem dX3_fewest_5 : decode cX3_fewest 5 = .ok (.if_icmp .ge 29, 3) := by decide +kernel
theorem dX3_fewest_8 : decode cX3_fewest 8 = .ok (.aload_n 0, 1) := by decide +kernel
theorem dX3_fewest_9 : decode cX3_fewest 9 = .ok (.getfield 20, 3) := by decide +kernel
theorem dX3_fewest_12 : decode cX3_fewest 12 = .ok (.iload_n 3, 1) := by decide +kernel
theorem dX3_fewest_13 : decode cX3_fewest 13 = .ok (.iload_n 3, 1) := by decide +kernel
theorem dX3_fewest_14 : decode cX3_fewest 14 = .ok (.iload_n 1, 1) := by decide +kernel
theorem dX3_fewest_15 : decode cX3_fewest 15 = .ok (.if_icmp .ne 7, 3) := by decide +kernel
theorem dX3_fewest_18 : decode cX3_fewest 18 = .ok (.iconst (-1), 1) := by decide +kernel
theorem dX3_fewest_19 : decode cX3_fewest 19 = .ok (.goto 8, 3) := by decide +kernel
theorem dX3_fewest_22 : decode cX3_fewest 22 = .ok (.aload_n 0, 1) := by decide +kernel
theorem dX3_fewest_23 : decode cX3_fewest 23 = .ok (.iload_n 3, 1) := by decide +kernel
theorem dX3_fewest_24 : decode cX3_fewest 24 = .ok (.invokevirtual 62, 3) := by decide +kernel
theorem dX3_fewest_27 : decode cX3_fewest 27 = .ok (.iastore, 1) := by decide +kernel
theorem dX3_fewest_28 : decode cX3_fewest 28 = .ok (.iinc 3 1, 3) := by decide +kernel
theorem dX3_fewest_31 : decode cX3_fewest 31 = .ok (.goto (-29), 3) := by decide +kernel
theorem dX3_fewest_34 : decode cX3_fewest 34 = .ok (.aload_n 0, 1) := by decide +kernel
theorem dX3_fewest_35 : decode cX3_fewest 35 = .ok (.iload_n 1, 1) := by decide +kernel
theorem dX3_fewest_36 : decode cX3_fewest 36 = .ok (.invokevirtual 48, 3) := by decide +kernel
theorem dX3_fewest_39 : decode cX3_fewest 39 = .ok (.istore_n 3, 1) := by decide +kernel
theorem dX3_fewest_40 : decode cX3_fewest 40 = .ok (.iconst 0, 1) := by decide +kernel
theorem dX3_fewest_41 : decode cX3_fewest 41 = .ok (.istore 4, 2) := by decide +kernel
theorem dX3_fewest_43 : decode cX3_fewest 43 = .ok (.iload_n 3, 1) := by decide +kernel
theorem dX3_fewest_44 : decode cX3_fewest 44 = .ok (.iload_n 2, 1) := by decide +kernel
theorem dX3_fewest_45 : decode cX3_fewest 45 = .ok (.if_icmp .ge 84, 3) := by decide +kernel
theorem dX3_fewest_48 : decode cX3_fewest 48 = .ok (.iconst 0, 1) := by decide +kernel
theorem dX3_fewest_49 : decode cX3_fewest 49 = .ok (.istore 5, 2) := by decide +kernel
theorem dX3_fewest_51 : decode cX3_fewest 51 = .ok (.iconst 1, 1) := by decide +kernel
theorem dX3_fewest_52 : decode cX3_fewest 52 = .ok (.istore 6, 2) := by decide +kernel
theorem dX3_fewest_54 : decode cX3_fewest 54 = .ok (.iload 6, 2) := by decide +kernel
theorem dX3_fewest_56 : decode cX3_fewest 56 = .ok (.bipush 6, 2) := by decide +kernel
theorem dX3_fewest_58 : decode cX3_fewest 58 = .ok (.if_icmp .ge 35, 3) := by decide +kernel
theorem dX3_fewest_61 : decode cX3_fewest 61 = .ok (.aload_n 0, 1) := by decide +kernel
theorem dX3_fewest_62 : decode cX3_fewest 62 = .ok (.getfield 20, 3) := by decide +kernel
theorem dX3_fewest_65 : decode cX3_fewest 65 = .ok (.iload 6, 2) := by decide +kernel
theorem dX3_fewest_67 : decode cX3_fewest 67 = .ok (.iaload, 1) := by decide +kernel
theorem dX3_fewest_68 : decode cX3_fewest 68 = .ok (.aload_n 0, 1) := by decide +kernel
theorem dX3_fewest_69 : decode cX3_fewest 69 = .ok (.getfield 20, 3) := by decide +kernel
theorem dX3_fewest_72 : decode cX3_fewest 72 = .ok (.iload 5, 2) := by decide +kernel
theorem dX3_fewest_74 : decode cX3_fewest 74 = .ok (.iaload, 1) := by decide +kernel
theorem dX3_fewest_75 : decode cX3_fewest 75 = .ok (.if_icmp .le 8, 3) := by decide +kernel
theorem dX3_fewest_78 : decode cX3_fewest 78 = .ok (.iload 6, 2) := by decide +kernel
theorem dX3_fewest_80 : decode cX3_fewest 80 = .ok (.goto 5, 3) := by decide +kernel
theorem dX3_fewest_83 : decode cX3_fewest 83 = .ok (.iload 5, 2) := by decide +kernel
theorem dX3_fewest_85 : decode cX3_fewest 85 = .ok (.istore 5, 2) := by decide +kernel
theorem dX3_fewest_87 : decode cX3_fewest 87 = .ok (.iinc 6 1, 3) := by decide +kernel
theorem dX3_fewest_90 : decode cX3_fewest 90 = .ok (.goto (-36), 3) := by decide +kernel
theorem dX3_fewest_93 : decode cX3_fewest 93 = .ok (.aload_n 0, 1) := by decide +kernel
theorem dX3_fewest_94 : decode cX3_fewest 94 = .ok (.getfield 20, 3) := by decide +kernel
theorem dX3_fewest_97 : decode cX3_fewest 97 = .ok (.iload 5, 2) := by decide +kernel
theorem dX3_fewest_99 : decode cX3_fewest 99 = .ok (.iaload, 1) := by decide +kernel
theorem dX3_fewest_100 : decode cX3_fewest 100 = .ok (.ifCond .gt 5, 3) := by decide +kernel
theorem dX3_fewest_103 : decode cX3_fewest 103 = .ok (.iconst (-1), 1) := by decide +kernel
theorem dX3_fewest_104 : decode cX3_fewest 104 = .ok (.ireturn, 1) := by decide +kernel
theorem dX3_fewest_105 : decode cX3_fewest 105 = .ok (.iload_n 3, 1) := by decide +kernel
theorem dX3_fewest_106 : decode cX3_fewest 106 = .ok (.aload_n 0, 1) := by decide +kernel
theorem dX3_fewest_107 : decode cX3_fewest 107 = .ok (.getfield 20, 3) := by decide +kernel
theorem dX3_fewest_110 : decode cX3_fewest 110 = .ok (.iload 5, 2) := by decide +kernel
theorem dX3_fewest_112 : decode cX3_fewest 112 = .ok (.iaload, 1) := by decide +kernel
theorem dX3_fewest_113 : decode cX3_fewest 113 = .ok (.iadd, 1) := by decide +kernel
theorem dX3_fewest_114 : decode cX3_fewest 114 = .ok (.istore_n 3, 1) := by decide +kernel
theorem dX3_fewest_115 : decode cX3_fewest 115 = .ok (.aload_n 0, 1) := by decide +kernel
theorem dX3_fewest_116 : decode cX3_fewest 116 = .ok (.getfield 20, 3) := by decide +kernel
theorem dX3_fewest_119 : decode cX3_fewest 119 = .ok (.iload 5, 2) := by decide +kernel
theorem dX3_fewest_121 : decode cX3_fewest 121 = .ok (.iconst (-1), 1) := by decide +kernel
theorem dX3_fewest_122 : decode cX3_fewest 122 = .ok (.iastore, 1) := by decide +kernel
theorem dX3_fewest_123 : decode cX3_fewest 123 = .ok (.iinc 4 1, 3) := by decide +kernel
theorem dX3_fewest_126 : decode cX3_fewest 126 = .ok (.goto (-83), 3) := by decide +kernel
theorem dX3_fewest_129 : decode cX3_fewest 129 = .ok (.iload 4, 2) := by decide +kernel
theorem dX3_fewest_131 : decode cX3_fewest 131 = .ok (.ireturn, 1) := by decide +kernel
set_option maxRecDepth 20000 in
theorem ggX3_guarantors_X3_isAmount : GoodIn wsX3_guarantors wsX3_isAmount := goodIn_r _ [4, 5, 6, 3, 7] (by decide +kernel) (by decide +kernel)
set_option maxRecDepth 20000 in
theorem gX3_guarantors_X3_isAmount : GoodIn wsX3_guarantors (va_wsS RX3 91 yX3_isAmount wsX3_isAmount) := goodIn_app (goodIn_of _ (by decide +kernel)) ggX3_guarantors_X3_isAmount
set_option maxRecDepth 20000 in
theorem ggX3_guarantors_X3_in : GoodIn wsX3_guarantors wsX3_in := goodIn_r _ [7] (by decide +kernel) (by decide +kernel)
set_option maxRecDepth 20000 in
theorem gX3_guarantors_X3_in : GoodIn wsX3_guarantors (va_wsS RX3 27 yX3_in wsX3_in) := goodIn_app (goodIn_of _ (by decide +kernel)) ggX3_guarantors_X3_in
set_option maxRecDepth 20000 in
theorem ggX3_guarantors_X3_isMember : GoodIn wsX3_guarantors wsX3_isMember := goodIn_r _ [10, 5, 6, 3, 7] (by decide +kernel) (by decide +kernel)
set_option maxRecDepth 20000 in
theorem gX3_guarantors_X3_isMember : GoodIn wsX3_guarantors (va_wsS RX3 87 yX3_isMember wsX3_isMember) := goodIn_app (goodIn_of _ (by decide +kernel)) ggX3_guarantors_X3_isMember
set_option maxRecDepth 20000 in
theorem ggX3_guarantors_X3_holds : GoodIn wsX3_guarantors wsX3_holds := goodIn_r _ [14, 15, 50, 51, 52, 53, 54, 55, 56, 57, 58, 59, 60, 61, 62, 63] (by decide +kernel) (by decide +kernel)
set_option maxRecDepth 20000 in
theorem gX3_guarantors_X3_holds : GoodIn wsX3_guarantors (wsV RX3 94 RX3 yX3_holds wsX3_holds) := goodIn_app (goodIn_of _ (by decide +kernel)) ggX3_guarantors_X3_holds
set_option maxRecDepth 20000 in
theorem ggX3_guarantors_X3_fewest : GoodIn wsX3_guarantors wsX3_fewest := goodIn_r _ [19, 20, 21, 22, 23, 3, 24, 25, 26, 27, 28, 29, 30, 31, 32, 33, 34, 35, 36, 37, 38, 39, 40, 41, 42, 43, 44, 45, 46, 47, 48, 49, 50, 51, 52, 53, 54, 55, 56, 57, 58, 59, 60, 61, 62, 63] (by decide +kernel) (by decide +kernel)
set_option maxRecDepth 20000 in
theorem gX3_guarantors_X3_fewest : GoodIn wsX3_guarantors (wsV RX3 192 RX3 yX3_fewest wsX3_fewest) := goodIn_app (goodIn_of _ (by decide +kernel)) ggX3_guarantors_X3_fewest
theorem dX3_guarantors_0 : decode cX3_guarantors 0 = .ok (.iload_n 2, 1) := by decide +kernel
theorem dX3_guarantors_1 : decode cX3_guarantors 1 = .ok (.invokestatic 91, 3) := by decide +kernel
theorem dX3_guarantors_4 : decode cX3_guarantors 4 = .ok (.ifCond .eq 16, 3) := by decide +kernel
theorem dX3_guarantors_7 : decode cX3_guarantors 7 = .ok (.iload_n 3, 1) := by decide +kernel
theorem dX3_guarantors_8 : decode cX3_guarantors 8 = .ok (.iconst 0, 1) := by decide +kernel
theorem dX3_guarantors_9 : decode cX3_guarantors 9 = .ok (.iconst 1, 1) := by decide +kernel
theorem dX3_guarantors_10 : decode cX3_guarantors 10 = .ok (.invokestatic 27, 3) := by decide +kernel
theorem dX3_guarantors_13 : decode cX3_guarantors 13 = .ok (.ifCond .eq 7, 3) := by decide +kernel
theorem dX3_guarantors_16 : decode cX3_guarantors 16 = .ok (.iconst 1, 1) := by decide +kernel
theorem dX3_guarantors_17 : decode cX3_guarantors 17 = .ok (.goto 4, 3) := by decide +kernel
theorem dX3_guarantors_20 : decode cX3_guarantors 20 = .ok (.iconst 0, 1) := by decide +kernel
theorem dX3_guarantors_21 : decode cX3_guarantors 21 = .ok (.istore 4, 2) := by decide +kernel
theorem dX3_guarantors_23 : decode cX3_guarantors 23 = .ok (.aload_n 0, 1) := by decide +kernel
theorem dX3_guarantors_24 : decode cX3_guarantors 24 = .ok (.iload_n 1, 1) := by decide +kernel
theorem dX3_guarantors_25 : decode cX3_guarantors 25 = .ok (.invokestatic 87, 3) := by decide +kernel
theorem dX3_guarantors_28 : decode cX3_guarantors 28 = .ok (.ifCond .ne 7, 3) := by decide +kernel
theorem dX3_guarantors_31 : decode cX3_guarantors 31 = .ok (.iconst 1, 1) := by decide +kernel
theorem dX3_guarantors_32 : decode cX3_guarantors 32 = .ok (.goto 13, 3) := by decide +kernel
theorem dX3_guarantors_35 : decode cX3_guarantors 35 = .ok (.iload 4, 2) := by decide +kernel
theorem dX3_guarantors_37 : decode cX3_guarantors 37 = .ok (.ifCond .ne 7, 3) := by decide +kernel
theorem dX3_guarantors_40 : decode cX3_guarantors 40 = .ok (.iconst 2, 1) := by decide +kernel
theorem dX3_guarantors_41 : decode cX3_guarantors 41 = .ok (.goto 4, 3) := by decide +kernel
theorem dX3_guarantors_44 : decode cX3_guarantors 44 = .ok (.iconst 0, 1) := by decide +kernel
theorem dX3_guarantors_45 : decode cX3_guarantors 45 = .ok (.invokevirtual 94, 3) := by decide +kernel
theorem dX3_guarantors_48 : decode cX3_guarantors 48 = .ok (.ifCond .eq 12, 3) := by decide +kernel
theorem dX3_guarantors_51 : decode cX3_guarantors 51 = .ok (.aload_n 0, 1) := by decide +kernel
theorem dX3_guarantors_52 : decode cX3_guarantors 52 = .ok (.iload_n 1, 1) := by decide +kernel
theorem dX3_guarantors_53 : decode cX3_guarantors 53 = .ok (.iload_n 2, 1) := by decide +kernel
theorem dX3_guarantors_54 : decode cX3_guarantors 54 = .ok (.invokevirtual 192, 3) := by decide +kernel
theorem dX3_guarantors_57 : decode cX3_guarantors 57 = .ok (.goto 4, 3) := by decide +kernel
theorem dX3_guarantors_60 : decode cX3_guarantors 60 = .ok (.iconst 0, 1) := by decide +kernel
theorem dX3_guarantors_61 : decode cX3_guarantors 61 = .ok (.ireturn, 1) := by decide +kernel
set_option maxRecDepth 20000 in
theorem ggX3_lasts_X3_of : GoodIn wsX3_lasts wsX3_of := goodIn_r _ [5, 6, 7, 8, 9, 10, 11, 12, 13, 14, 15, 16, 17, 18, 19, 20] (by decide +kernel) (by decide +kernel)
set_option maxRecDepth 20000 in
theorem gX3_lasts_X3_of : GoodIn wsX3_lasts (wsV RX3 35 RX3 yX3_of wsX3_of) := goodIn_app (goodIn_of _ (by decide +kernel)) ggX3_lasts_X3_of
theorem dX3_lasts_0 : decode cX3_lasts 0 = .ok (.aload_n 0, 1) := by decide +kernel
theorem dX3_lasts_1 : decode cX3_lasts 1 = .ok (.iload_n 1, 1) := by decide +kernel
theorem dX3_lasts_2 : decode cX3_lasts 2 = .ok (.iconst 2, 1) := by decide +kernel
theorem dX3_lasts_3 : decode cX3_lasts 3 = .ok (.invokevirtual 35, 3) := by decide +kernel
theorem dX3_lasts_6 : decode cX3_lasts 6 = .ok (.istore_n 2, 1) := by decide +kernel
theorem dX3_lasts_7 : decode cX3_lasts 7 = .ok (.iload_n 2, 1) := by decide +kernel
theorem dX3_lasts_8 : decode cX3_lasts 8 = .ok (.ifCond .ne 7, 3) := by decide +kernel
theorem dX3_lasts_11 : decode cX3_lasts 11 = .ok (.iconst 0, 1) := by decide +kernel
theorem dX3_lasts_12 : decode cX3_lasts 12 = .ok (.goto 20, 3) := by decide +kernel
theorem dX3_lasts_15 : decode cX3_lasts 15 = .ok (.iload_n 2, 1) := by decide +kernel
theorem dX3_lasts_16 : decode cX3_lasts 16 = .ok (.aload_n 0, 1) := by decide +kernel
theorem dX3_lasts_17 : decode cX3_lasts 17 = .ok (.iload_n 1, 1) := by decide +kernel
theorem dX3_lasts_18 : decode cX3_lasts 18 = .ok (.iconst 3, 1) := by decide +kernel
theorem dX3_lasts_19 : decode cX3_lasts 19 = .ok (.invokevirtual 35, 3) := by decide +kernel
theorem dX3_lasts_22 : decode cX3_lasts 22 = .ok (.iadd, 1) := by decide +kernel
theorem dX3_lasts_23 : decode cX3_lasts 23 = .ok (.iconst 1, 1) := by decide +kernel
theorem dX3_lasts_24 : decode cX3_lasts 24 = .ok (.isub, 1) := by decide +kernel
theorem dX3_lasts_25 : decode cX3_lasts 25 = .ok (.aload_n 0, 1) := by decide +kernel
theorem dX3_lasts_26 : decode cX3_lasts 26 = .ok (.iload_n 1, 1) := by decide +kernel
theorem dX3_lasts_27 : decode cX3_lasts 27 = .ok (.iconst 3, 1) := by decide +kernel
theorem dX3_lasts_28 : decode cX3_lasts 28 = .ok (.invokevirtual 35, 3) := by decide +kernel
theorem dX3_lasts_31 : decode cX3_lasts 31 = .ok (.idiv, 1) := by decide +kernel
theorem dX3_lasts_32 : decode cX3_lasts 32 = .ok (.ireturn, 1) := by decide +kernel
set_option maxRecDepth 20000 in
theorem ggX3_weeksLeft_X3_isMember : GoodIn wsX3_weeksLeft wsX3_isMember := goodIn_r _ [4, 5, 6, 3, 7] (by decide +kernel) (by decide +kernel)
set_option maxRecDepth 20000 in
theorem gX3_weeksLeft_X3_isMember : GoodIn wsX3_weeksLeft (va_wsS RX3 87 yX3_isMember wsX3_isMember) := goodIn_app (goodIn_of _ (by decide +kernel)) ggX3_weeksLeft_X3_isMember
set_option maxRecDepth 20000 in
theorem ggX3_weeksLeft_X3_in : GoodIn wsX3_weeksLeft wsX3_in := goodIn_r _ [7] (by decide +kernel) (by decide +kernel)
set_option maxRecDepth 20000 in
theorem gX3_weeksLeft_X3_in : GoodIn wsX3_weeksLeft (va_wsS RX3 27 yX3_in wsX3_in) := goodIn_app (goodIn_of _ (by decide +kernel)) ggX3_weeksLeft_X3_in
set_option maxRecDepth 20000 in
theorem ggX3_weeksLeft_X3_holds : GoodIn wsX3_weeksLeft wsX3_holds := goodIn_r _ [11, 12, 22, 23, 24, 25, 26, 27, 28, 29, 30, 31, 32, 33, 34, 35] (by decide +kernel) (by decide +kernel)
set_option maxRecDepth 20000 in
theorem gX3_weeksLeft_X3_holds : GoodIn wsX3_weeksLeft (wsV RX3 94 RX3 yX3_holds wsX3_holds) := goodIn_app (goodIn_of _ (by decide +kernel)) ggX3_weeksLeft_X3_holds
set_option maxRecDepth 20000 in
theorem ggX3_weeksLeft_X3_lasts : GoodIn wsX3_weeksLeft wsX3_lasts := goodIn_r _ [16, 17, 18, 19, 3, 20, 21, 22, 23, 24, 25, 26, 27, 28, 29, 30, 31, 32, 33, 34, 35] (by decide +kernel) (by decide +kernel)
set_option maxRecDepth 20000 in
theorem gX3_weeksLeft_X3_lasts : GoodIn wsX3_weeksLeft (wsV RX3 195 RX3 yX3_lasts wsX3_lasts) := goodIn_app (goodIn_of _ (by decide +kernel)) ggX3_weeksLeft_X3_lasts
theorem dX3_weeksLeft_0 : decode cX3_weeksLeft 0 = .ok (.aload_n 0, 1) := by decide +kernel
theorem dX3_weeksLeft_1 : decode cX3_weeksLeft 1 = .ok (.iload_n 1, 1) := by decide +kernel
theorem dX3_weeksLeft_2 : decode cX3_weeksLeft 2 = .ok (.invokestatic 87, 3) := by decide +kernel
theorem dX3_weeksLeft_5 : decode cX3_weeksLeft 5 = .ok (.ifCond .ne 7, 3) := by decide +kernel
theorem dX3_weeksLeft_8 : decode cX3_weeksLeft 8 = .ok (.iconst 1, 1) := by decide +kernel
theorem dX3_weeksLeft_9 : decode cX3_weeksLeft 9 = .ok (.goto 17, 3) := by decide +kernel
theorem dX3_weeksLeft_12 : decode cX3_weeksLeft 12 = .ok (.iload_n 2, 1) := by decide +kernel
theorem dX3_weeksLeft_13 : decode cX3_weeksLeft 13 = .ok (.iconst 0, 1) := by decide +kernel
theorem dX3_weeksLeft_14 : decode cX3_weeksLeft 14 = .ok (.iconst 1, 1) := by decide +kernel
theorem dX3_weeksLeft_15 : decode cX3_weeksLeft 15 = .ok (.invokestatic 27, 3) := by decide +kernel
theorem dX3_weeksLeft_18 : decode cX3_weeksLeft 18 = .ok (.ifCond .ne 7, 3) := by decide +kernel
theorem dX3_weeksLeft_21 : decode cX3_weeksLeft 21 = .ok (.iconst 2, 1) := by decide +kernel
theorem dX3_weeksLeft_22 : decode cX3_weeksLeft 22 = .ok (.goto 4, 3) := by decide +kernel
theorem dX3_weeksLeft_25 : decode cX3_weeksLeft 25 = .ok (.iconst 0, 1) := by decide +kernel
theorem dX3_weeksLeft_26 : decode cX3_weeksLeft 26 = .ok (.invokevirtual 94, 3) := by decide +kernel
theorem dX3_weeksLeft_29 : decode cX3_weeksLeft 29 = .ok (.ifCond .eq 11, 3) := by decide +kernel
theorem dX3_weeksLeft_32 : decode cX3_weeksLeft 32 = .ok (.aload_n 0, 1) := by decide +kernel
theorem dX3_weeksLeft_33 : decode cX3_weeksLeft 33 = .ok (.iload_n 1, 1) := by decide +kernel
theorem dX3_weeksLeft_34 : decode cX3_weeksLeft 34 = .ok (.invokevirtual 195, 3) := by decide +kernel
theorem dX3_weeksLeft_37 : decode cX3_weeksLeft 37 = .ok (.goto 4, 3) := by decide +kernel
theorem dX3_weeksLeft_40 : decode cX3_weeksLeft 40 = .ok (.iconst 0, 1) := by decide +kernel
theorem dX3_weeksLeft_41 : decode cX3_weeksLeft 41 = .ok (.ireturn, 1) := by decide +kernel
set_option maxRecDepth 20000 in
theorem ggX3_ifDivided_X3_isMember : GoodIn wsX3_ifDivided wsX3_isMember := goodIn_r _ [4, 5, 6, 3, 7] (by decide +kernel) (by decide +kernel)
set_option maxRecDepth 20000 in
theorem gX3_ifDivided_X3_isMember : GoodIn wsX3_ifDivided (va_wsS RX3 87 yX3_isMember wsX3_isMember) := goodIn_app (goodIn_of _ (by decide +kernel)) ggX3_ifDivided_X3_isMember
set_option maxRecDepth 20000 in
theorem ggX3_ifDivided_X3_holds : GoodIn wsX3_ifDivided wsX3_holds := goodIn_r _ [11, 12, 26, 27, 28, 29, 30, 31, 32, 33, 34, 35, 36, 37, 38, 39] (by decide +kernel) (by decide +kernel)
set_option maxRecDepth 20000 in
theorem gX3_ifDivided_X3_holds : GoodIn wsX3_ifDivided (wsV RX3 94 RX3 yX3_holds wsX3_holds) := goodIn_app (goodIn_of _ (by decide +kernel)) ggX3_ifDivided_X3_holds
set_option maxRecDepth 20000 in
theorem ggX3_ifDivided_X3_share : GoodIn wsX3_ifDivided wsX3_share := goodIn_r _ [16, 17, 18, 19, 20, 3, 21, 22, 23, 24, 25, 26, 27, 28, 29, 30, 31, 32, 33, 34, 35, 36, 37, 38, 39] (by decide +kernel) (by decide +kernel)
set_option maxRecDepth 20000 in
theorem gX3_ifDivided_X3_share : GoodIn wsX3_ifDivided (wsV RX3 131 RX3 yX3_share wsX3_share) := goodIn_app (goodIn_of _ (by decide +kernel)) ggX3_ifDivided_X3_share
theorem dX3_ifDivided_0 : decode cX3_ifDivided 0 = .ok (.aload_n 0, 1) := by decide +kernel
theorem dX3_ifDivided_1 : decode cX3_ifDivided 1 = .ok (.iload_n 1, 1) := by decide +kernel
theorem dX3_ifDivided_2 : decode cX3_ifDivided 2 = .ok (.invokestatic 87, 3) := by decide +kernel
theorem dX3_ifDivided_5 : decode cX3_ifDivided 5 = .ok (.ifCond .eq 7, 3) := by decide +kernel
theorem dX3_ifDivided_8 : decode cX3_ifDivided 8 = .ok (.iconst 0, 1) := by decide +kernel
theorem dX3_ifDivided_9 : decode cX3_ifDivided 9 = .ok (.goto 4, 3) := by decide +kernel
theorem dX3_ifDivided_12 : decode cX3_ifDivided 12 = .ok (.iconst 1, 1) := by decide +kernel
theorem dX3_ifDivided_13 : decode cX3_ifDivided 13 = .ok (.invokevirtual 94, 3) := by decide +kernel
theorem dX3_ifDivided_16 : decode cX3_ifDivided 16 = .ok (.ifCond .eq 11, 3) := by decide +kernel
theorem dX3_ifDivided_19 : decode cX3_ifDivided 19 = .ok (.aload_n 0, 1) := by decide +kernel
theorem dX3_ifDivided_20 : decode cX3_ifDivided 20 = .ok (.iload_n 1, 1) := by decide +kernel
theorem dX3_ifDivided_21 : decode cX3_ifDivided 21 = .ok (.invokevirtual 131, 3) := by decide +kernel
theorem dX3_ifDivided_24 : decode cX3_ifDivided 24 = .ok (.goto 4, 3) := by decide +kernel
theorem dX3_ifDivided_27 : decode cX3_ifDivided 27 = .ok (.iconst 0, 1) := by decide +kernel
theorem dX3_ifDivided_28 : decode cX3_ifDivided 28 = .ok (.ireturn, 1) := by decide +kernel
set_option maxRecDepth 20000 in
theorem ggX3_risky_X3_of : GoodIn wsX3_risky wsX3_of := goodIn_r _ [5, 6, 19, 20, 21, 22, 23, 24, 25, 26, 27, 28, 29, 30, 31, 32] (by decide +kernel) (by decide +kernel)
set_option maxRecDepth 20000 in
theorem gX3_risky_X3_of : GoodIn wsX3_risky (wsV RX3 35 RX3 yX3_of wsX3_of) := goodIn_app (goodIn_of _ (by decide +kernel)) ggX3_risky_X3_of
set_option maxRecDepth 20000 in
theorem ggX3_risky_X3_own : GoodIn wsX3_risky wsX3_own := goodIn_r _ [10, 1, 2, 3, 4, 5, 6, 11, 12, 13, 14, 15, 16, 17, 18, 19, 20, 21, 22, 23, 24, 25, 26, 27, 28, 29, 30, 31, 32] (by decide +kernel) (by decide +kernel)
set_option maxRecDepth 20000 in
theorem gX3_risky_X3_own : GoodIn wsX3_risky (wsV RX3 42 RX3 yX3_own wsX3_own) := goodIn_app (goodIn_of _ (by decide +kernel)) ggX3_risky_X3_own
theorem dX3_risky_0 : decode cX3_risky 0 = .ok (.iconst (-1), 1) := by decide +kernel
theorem dX3_risky_1 : decode cX3_risky 1 = .ok (.istore_n 1, 1) := by decide +kernel
theorem dX3_risky_2 : decode cX3_risky 2 = .ok (.iconst 0, 1) := by decide +kernel
theorem dX3_risky_3 : decode cX3_risky 3 = .ok (.istore_n 2, 1) := by decide +kernel
theorem dX3_risky_4 : decode cX3_risky 4 = .ok (.iconst 0, 1) := by decide +kernel
theorem dX3_risky_5 : decode cX3_risky 5 = .ok (.istore_n 3, 1) := by decide +kernel
theorem dX3_risky_6 : decode cX3_risky 6 = .ok (.iload_n 3, 1) := by decide +kernel
theorem dX3_risky_7 : decode cX3_risky 7 = .ok (.bipush 6, 2) := by decide +kernel
theorem dX3_risky_9 : decode cX3_risky 9 = .ok (.if_icmp .ge 68, 3) := by decide +kernel
theorem dX3_risky_12 : decode cX3_risky 12 = .ok (.aload_n 0, 1) := by decide +kernel
theorem dX3_risky_13 : decode cX3_risky 13 = .ok (.iload_n 3, 1) := by decide +kernel
theorem dX3_risky_14 : decode cX3_risky 14 = .ok (.iconst 2, 1) := by decide +kernel
theorem dX3_risky_15 : decode cX3_risky 15 = .ok (.invokevirtual 35, 3) := by decide +kernel
theorem dX3_risky_18 : decode cX3_risky 18 = .ok (.aload_n 0, 1) := by decide +kernel
theorem dX3_risky_19 : decode cX3_risky 19 = .ok (.iload_n 3, 1) := by decide +kernel
theorem dX3_risky_20 : decode cX3_risky 20 = .ok (.invokevirtual 42, 3) := by decide +kernel
theorem dX3_risky_23 : decode cX3_risky 23 = .ok (.isub, 1) := by decide +kernel
theorem dX3_risky_24 : decode cX3_risky 24 = .ok (.istore 4, 2) := by decide +kernel
theorem dX3_risky_26 : decode cX3_risky 26 = .ok (.aload_n 0, 1) := by decide +kernel
theorem dX3_risky_27 : decode cX3_risky 27 = .ok (.iload_n 3, 1) := by decide +kernel
theorem dX3_risky_28 : decode cX3_risky 28 = .ok (.iconst 2, 1) := by decide +kernel
theorem dX3_risky_29 : decode cX3_risky 29 = .ok (.invokevirtual 35, 3) := by decide +kernel
theorem dX3_risky_32 : decode cX3_risky 32 = .ok (.ifCond .le 13, 3) := by decide +kernel
theorem dX3_risky_35 : decode cX3_risky 35 = .ok (.iload 4, 2) := by decide +kernel
theorem dX3_risky_37 : decode cX3_risky 37 = .ok (.iload_n 2, 1) := by decide +kernel
theorem dX3_risky_38 : decode cX3_risky 38 = .ok (.if_icmp .le 7, 3) := by decide +kernel
theorem dX3_risky_41 : decode cX3_risky 41 = .ok (.iconst 1, 1) := by decide +kernel
theorem dX3_risky_42 : decode cX3_risky 42 = .ok (.goto 4, 3) := by decide +kernel
theorem dX3_risky_45 : decode cX3_risky 45 = .ok (.iconst 0, 1) := by decide +kernel
theorem dX3_risky_46 : decode cX3_risky 46 = .ok (.istore 5, 2) := by decide +kernel
theorem dX3_risky_48 : decode cX3_risky 48 = .ok (.iload 5, 2) := by decide +kernel
theorem dX3_risky_50 : decode cX3_risky 50 = .ok (.ifCond .eq 7, 3) := by decide +kernel
theorem dX3_risky_53 : decode cX3_risky 53 = .ok (.iload_n 3, 1) := by decide +kernel
theorem dX3_risky_54 : decode cX3_risky 54 = .ok (.goto 4, 3) := by decide +kernel
theorem dX3_risky_57 : decode cX3_risky 57 = .ok (.iload_n 1, 1) := by decide +kernel
theorem dX3_risky_58 : decode cX3_risky 58 = .ok (.istore_n 1, 1) := by decide +kernel
theorem dX3_risky_59 : decode cX3_risky 59 = .ok (.iload 5, 2) := by decide +kernel
theorem dX3_risky_61 : decode cX3_risky 61 = .ok (.ifCond .eq 8, 3) := by decide +kernel
theorem dX3_risky_64 : decode cX3_risky 64 = .ok (.iload 4, 2) := by decide +kernel
theorem dX3_risky_66 : decode cX3_risky 66 = .ok (.goto 4, 3) := by decide +kernel
theorem dX3_risky_69 : decode cX3_risky 69 = .ok (.iload_n 2, 1) := by decide +kernel
theorem dX3_risky_70 : decode cX3_risky 70 = .ok (.istore_n 2, 1) := by decide +kernel
theorem dX3_risky_71 : decode cX3_risky 71 = .ok (.iinc 3 1, 3) := by decide +kernel
theorem dX3_risky_74 : decode cX3_risky 74 = .ok (.goto (-68), 3) := by decide +kernel
theorem dX3_risky_77 : decode cX3_risky 77 = .ok (.iload_n 1, 1) := by decide +kernel
theorem dX3_risky_78 : decode cX3_risky 78 = .ok (.ireturn, 1) := by decide +kernel
set_option maxRecDepth 20000 in
theorem ggX3_riskiest_X3_risky : GoodIn wsX3_riskiest wsX3_risky := goodIn_r _ [6, 7, 8, 9, 5, 10, 11, 12, 13, 14, 15, 16, 17, 18, 19, 20, 21, 22, 23, 24, 25, 26, 27, 28, 29, 30, 31, 32, 33, 34, 35, 36, 37] (by decide +kernel) (by decide +kernel)
set_option maxRecDepth 20000 in
theorem gX3_riskiest_X3_risky : GoodIn wsX3_riskiest (wsV RX3 198 RX3 yX3_risky wsX3_risky) := goodIn_app (goodIn_of _ (by decide +kernel)) ggX3_riskiest_X3_risky
theorem dX3_riskiest_0 : decode cX3_riskiest 0 = .ok (.aload_n 0, 1) := by decide +kernel
theorem dX3_riskiest_1 : decode cX3_riskiest 1 = .ok (.iconst 0, 1) := by decide +kernel
theorem dX3_riskiest_2 : decode cX3_riskiest 2 = .ok (.putfield 23, 3) := by decide +kernel
theorem dX3_riskiest_5 : decode cX3_riskiest 5 = .ok (.aload_n 0, 1) := by decide +kernel
theorem dX3_riskiest_6 : decode cX3_riskiest 6 = .ok (.invokevirtual 198, 3) := by decide +kernel
theorem dX3_riskiest_9 : decode cX3_riskiest 9 = .ok (.ireturn, 1) := by decide +kernel
set_option maxRecDepth 20000 in
theorem ggX3_lent_X3_total : GoodIn wsX3_lent wsX3_total := goodIn_r _ [5, 6, 7, 8, 4, 9, 10, 11, 12, 13, 14, 15, 16, 17, 18, 19, 20, 21, 22, 23, 24] (by decide +kernel) (by decide +kernel)
set_option maxRecDepth 20000 in
theorem gX3_lent_X3_total : GoodIn wsX3_lent (wsV RX3 183 RX3 yX3_total wsX3_total) := goodIn_app (goodIn_of _ (by decide +kernel)) ggX3_lent_X3_total
theorem dX3_lent_0 : decode cX3_lent 0 = .ok (.aload_n 0, 1) := by decide +kernel
theorem dX3_lent_1 : decode cX3_lent 1 = .ok (.iconst 0, 1) := by decide +kernel
theorem dX3_lent_2 : decode cX3_lent 2 = .ok (.invokevirtual 183, 3) := by decide +kernel
theorem dX3_lent_5 : decode cX3_lent 5 = .ok (.ifCond .ne 7, 3) := by decide +kernel
theorem dX3_lent_8 : decode cX3_lent 8 = .ok (.dconst 0, 1) := by decide +kernel
theorem dX3_lent_9 : decode cX3_lent 9 = .ok (.goto 16, 3) := by decide +kernel
theorem dX3_lent_12 : decode cX3_lent 12 = .ok (.aload_n 0, 1) := by decide +kernel
theorem dX3_lent_13 : decode cX3_lent 13 = .ok (.iconst 2, 1) := by decide +kernel
theorem dX3_lent_14 : decode cX3_lent 14 = .ok (.invokevirtual 183, 3) := by decide +kernel
theorem dX3_lent_17 : decode cX3_lent 17 = .ok (.i2d, 1) := by decide +kernel
theorem dX3_lent_18 : decode cX3_lent 18 = .ok (.aload_n 0, 1) := by decide +kernel
theorem dX3_lent_19 : decode cX3_lent 19 = .ok (.iconst 0, 1) := by decide +kernel
theorem dX3_lent_20 : decode cX3_lent 20 = .ok (.invokevirtual 183, 3) := by decide +kernel
theorem dX3_lent_23 : decode cX3_lent 23 = .ok (.i2d, 1) := by decide +kernel
theorem dX3_lent_24 : decode cX3_lent 24 = .ok (.ddiv, 1) := by decide +kernel
theorem dX3_lent_25 : decode cX3_lent 25 = .ok (.dreturn, 1) := by decide +kernel
set_option maxRecDepth 20000 in
theorem ggX3_lentShare_X3_lent : GoodIn wsX3_lentShare wsX3_lent := goodIn_r _ [6, 7, 8, 9, 5, 10, 11, 12, 13, 14, 15, 16, 17, 18, 19, 20, 21, 22, 23, 24, 25, 26, 27, 28, 29] (by decide +kernel) (by decide +kernel)
set_option maxRecDepth 20000 in
theorem gX3_lentShare_X3_lent : GoodIn wsX3_lentShare (wsV RX3 201 RX3 yX3_lent wsX3_lent) := goodIn_app (goodIn_of _ (by decide +kernel)) ggX3_lentShare_X3_lent
theorem dX3_lentShare_0 : decode cX3_lentShare 0 = .ok (.aload_n 0, 1) := by decide +kernel
theorem dX3_lentShare_1 : decode cX3_lentShare 1 = .ok (.iconst 0, 1) := by decide +kernel
theorem dX3_lentShare_2 : decode cX3_lentShare 2 = .ok (.putfield 23, 3) := by decide +kernel
theorem dX3_lentShare_5 : decode cX3_lentShare 5 = .ok (.aload_n 0, 1) := by decide +kernel
theorem dX3_lentShare_6 : decode cX3_lentShare 6 = .ok (.invokevirtual 201, 3) := by decide +kernel
theorem dX3_lentShare_9 : decode cX3_lentShare 9 = .ok (.dreturn, 1) := by decide +kernel
theorem dX3_mix_0 : decode cX3_mix 0 = .ok (.aload_n 0, 1) := by decide +kernel
theorem dX3_mix_1 : decode cX3_mix 1 = .ok (.ldc2_w 205, 3) := by decide +kernel
theorem dX3_mix_4 : decode cX3_mix 4 = .ok (.aload_n 0, 1) := by decide +kernel
theorem dX3_mix_5 : decode cX3_mix 5 = .ok (.getfield 207, 3) := by decide +kernel
theorem dX3_mix_8 : decode cX3_mix 8 = .ok (.lmul, 1) := by decide +kernel
theorem dX3_mix_9 : decode cX3_mix 9 = .ok (.lload_n 1, 1) := by decide +kernel
theorem dX3_mix_10 : decode cX3_mix 10 = .ok (.ladd, 1) := by decide +kernel
theorem dX3_mix_11 : decode cX3_mix 11 = .ok (.putfield 207, 3) := by decide +kernel
theorem dX3_mix_14 : decode cX3_mix 14 = .ok (.return_, 1) := by decide +kernel
theorem dX3_bits_0 : decode cX3_bits 0 = .ok (.dload_n 0, 1) := by decide +kernel
theorem dX3_bits_1 : decode cX3_bits 1 = .ok (.dconst 0, 1) := by decide +kernel
theorem dX3_bits_2 : decode cX3_bits 2 = .ok (.dcmp .l, 1) := by decide +kernel
theorem dX3_bits_3 : decode cX3_bits 3 = .ok (.ifCond .ne 5, 3) := by decide +kernel
theorem dX3_bits_6 : decode cX3_bits 6 = .ok (.lconst 0, 1) := by decide +kernel
theorem dX3_bits_7 : decode cX3_bits 7 = .ok (.lreturn, 1) := by decide +kernel
theorem dX3_bits_8 : decode cX3_bits 8 = .ok (.dload_n 0, 1) := by decide +kernel
theorem dX3_bits_9 : decode cX3_bits 9 = .ok (.dstore_n 2, 1) := by decide +kernel
theorem dX3_bits_10 : decode cX3_bits 10 = .ok (.ldc2_w 211, 3) := by decide +kernel
theorem dX3_bits_13 : decode cX3_bits 13 = .ok (.lstore 4, 2) := by decide +kernel
theorem dX3_bits_15 : decode cX3_bits 15 = .ok (.dload_n 2, 1) := by decide +kernel
theorem dX3_bits_16 : decode cX3_bits 16 = .ok (.ldc2_w 213, 3) := by decide +kernel
theorem dX3_bits_19 : decode cX3_bits 19 = .ok (.dcmp .l, 1) := by decide +kernel
theorem dX3_bits_20 : decode cX3_bits 20 = .ok (.ifCond .lt 18, 3) := by decide +kernel
theorem dX3_bits_23 : decode cX3_bits 23 = .ok (.dload_n 2, 1) := by decide +kernel
theorem dX3_bits_24 : decode cX3_bits 24 = .ok (.ldc2_w 213, 3) := by decide +kernel
theorem dX3_bits_27 : decode cX3_bits 27 = .ok (.ddiv, 1) := by decide +kernel
theorem dX3_bits_28 : decode cX3_bits 28 = .ok (.dstore_n 2, 1) := by decide +kernel
theorem dX3_bits_29 : decode cX3_bits 29 = .ok (.lload 4, 2) := by decide +kernel
theorem dX3_bits_31 : decode cX3_bits 31 = .ok (.lconst 1, 1) := by decide +kernel
theorem dX3_bits_32 : decode cX3_bits 32 = .ok (.ladd, 1) := by decide +kernel
theorem dX3_bits_33 : decode cX3_bits 33 = .ok (.lstore 4, 2) := by decide +kernel
theorem dX3_bits_35 : decode cX3_bits 35 = .ok (.goto (-20), 3) := by decide +kernel
theorem dX3_bits_38 : decode cX3_bits 38 = .ok (.dload_n 2, 1) := by decide +kernel
theorem dX3_bits_39 : decode cX3_bits 39 = .ok (.dconst 1, 1) := by decide +kernel
theorem dX3_bits_40 : decode cX3_bits 40 = .ok (.dcmp .g, 1) := by decide +kernel
theorem dX3_bits_41 : decode cX3_bits 41 = .ok (.ifCond .ge 18, 3) := by decide +kernel
theorem dX3_bits_44 : decode cX3_bits 44 = .ok (.dload_n 2, 1) := by decide +kernel
theorem dX3_bits_45 : decode cX3_bits 45 = .ok (.ldc2_w 213, 3) := by decide +kernel
theorem dX3_bits_48 : decode cX3_bits 48 = .ok (.dmul, 1) := by decide +kernel
theorem dX3_bits_49 : decode cX3_bits 49 = .ok (.dstore_n 2, 1) := by decide +kernel
theorem dX3_bits_50 : decode cX3_bits 50 = .ok (.lload 4, 2) := by decide +kernel
theorem dX3_bits_52 : decode cX3_bits 52 = .ok (.lconst 1, 1) := by decide +kernel
theorem dX3_bits_53 : decode cX3_bits 53 = .ok (.lsub, 1) := by decide +kernel
theorem dX3_bits_54 : decode cX3_bits 54 = .ok (.lstore 4, 2) := by decide +kernel
theorem dX3_bits_56 : decode cX3_bits 56 = .ok (.goto (-18), 3) := by decide +kernel
theorem dX3_bits_59 : decode cX3_bits 59 = .ok (.lload 4, 2) := by decide +kernel
theorem dX3_bits_61 : decode cX3_bits 61 = .ok (.ldc2_w 215, 3) := by decide +kernel
theorem dX3_bits_64 : decode cX3_bits 64 = .ok (.lmul, 1) := by decide +kernel
theorem dX3_bits_65 : decode cX3_bits 65 = .ok (.dload_n 2, 1) := by decide +kernel
theorem dX3_bits_66 : decode cX3_bits 66 = .ok (.dconst 1, 1) := by decide +kernel
theorem dX3_bits_67 : decode cX3_bits 67 = .ok (.dsub, 1) := by decide +kernel
theorem dX3_bits_68 : decode cX3_bits 68 = .ok (.ldc2_w 217, 3) := by decide +kernel
theorem dX3_bits_71 : decode cX3_bits 71 = .ok (.dmul, 1) := by decide +kernel
theorem dX3_bits_72 : decode cX3_bits 72 = .ok (.d2l, 1) := by decide +kernel
theorem dX3_bits_73 : decode cX3_bits 73 = .ok (.ladd, 1) := by decide +kernel
theorem dX3_bits_74 : decode cX3_bits 74 = .ok (.lreturn, 1) := by decide +kernel
set_option maxRecDepth 20000 in
theorem ggX3_mixMember_X3_property : GoodIn wsX3_mixMember wsX3_property := goodIn_r _ [5, 6, 7, 8, 4, 9, 10, 11, 12, 13, 14, 15, 16, 17, 18, 19, 20, 21, 22, 23, 24, 25, 26, 27, 28, 29, 30, 31, 32, 33, 34, 69, 70, 71, 72, 73, 74, 75, 76, 77, 78, 79, 80, 81, 82] (by decide +kernel) (by decide +kernel)
set_option maxRecDepth 20000 in
theorem gX3_mixMember_X3_property : GoodIn wsX3_mixMember (wsV RX3 180 RX3 yX3_property wsX3_property) := goodIn_app (goodIn_of _ (by decide +kernel)) ggX3_mixMember_X3_property
set_option maxRecDepth 20000 in
theorem ggX3_mixMember_X3_mix : GoodIn wsX3_mixMember wsX3_mix := goodIn_r _ [38, 39, 40, 69, 70, 71, 72, 73, 74, 75, 76, 77, 78, 79, 80, 81, 82] (by decide +kernel) (by decide +kernel)
set_option maxRecDepth 20000 in
theorem gX3_mixMember_X3_mix : GoodIn wsX3_mixMember (wsV RX3 219 RX3 yX3_mix wsX3_mix) := goodIn_app (goodIn_of _ (by decide +kernel)) ggX3_mixMember_X3_mix
set_option maxRecDepth 20000 in
theorem ggX3_mixMember_X3_pledgeOf : GoodIn wsX3_mixMember wsX3_pledgeOf := goodIn_r _ [18, 10, 69, 70, 71, 72, 73, 74, 75, 76, 77, 78, 79, 80, 81, 82] (by decide +kernel) (by decide +kernel)
set_option maxRecDepth 20000 in
theorem gX3_mixMember_X3_pledgeOf : GoodIn wsX3_mixMember (wsV RX3 31 RX3 yX3_pledgeOf wsX3_pledgeOf) := goodIn_app (goodIn_of _ (by decide +kernel)) ggX3_mixMember_X3_pledgeOf
set_option maxRecDepth 20000 in
theorem ggX3_mixMember_X3_most : GoodIn wsX3_mixMember wsX3_most := goodIn_r _ [44, 45, 46, 47, 4, 48, 10, 6, 7, 8, 9, 23, 24, 25, 26, 27, 28, 29, 30, 11, 12, 13, 14, 15, 16, 17, 18, 19, 20, 21, 22, 49, 50, 51, 69, 70, 71, 72, 73, 74, 75, 76, 77, 78, 79, 80, 81, 82] (by decide +kernel) (by decide +kernel)
set_option maxRecDepth 20000 in
theorem gX3_mixMember_X3_most : GoodIn wsX3_mixMember (wsV RX3 189 RX3 yX3_most wsX3_most) := goodIn_app (goodIn_of _ (by decide +kernel)) ggX3_mixMember_X3_most
set_option maxRecDepth 20000 in
theorem ggX3_mixMember_X3_fewest : GoodIn wsX3_mixMember wsX3_fewest := goodIn_r _ [55, 56, 31, 32, 33, 4, 34, 6, 7, 8, 9, 10, 19, 20, 21, 22, 15, 16, 17, 18, 27, 28, 29, 30, 11, 12, 13, 14, 23, 24, 25, 26, 69, 70, 71, 72, 73, 74, 75, 76, 77, 78, 79, 80, 81, 82] (by decide +kernel) (by decide +kernel)
set_option maxRecDepth 20000 in
theorem gX3_mixMember_X3_fewest : GoodIn wsX3_mixMember (wsV RX3 192 RX3 yX3_fewest wsX3_fewest) := goodIn_app (goodIn_of _ (by decide +kernel)) ggX3_mixMember_X3_fewest
set_option maxRecDepth 20000 in
theorem ggX3_mixMember_X3_lasts : GoodIn wsX3_mixMember wsX3_lasts := goodIn_r _ [60, 6, 7, 8, 4, 9, 10, 69, 70, 71, 72, 73, 74, 75, 76, 77, 78, 79, 80, 81, 82] (by decide +kernel) (by decide +kernel)
set_option maxRecDepth 20000 in
theorem gX3_mixMember_X3_lasts : GoodIn wsX3_mixMember (wsV RX3 195 RX3 yX3_lasts wsX3_lasts) := goodIn_app (goodIn_of _ (by decide +kernel)) ggX3_mixMember_X3_lasts
set_option maxRecDepth 20000 in
theorem ggX3_mixMember_X3_share : GoodIn wsX3_mixMember wsX3_share := goodIn_r _ [64, 10, 65, 66, 67, 4, 68, 6, 7, 8, 9, 69, 70, 71, 72, 73, 74, 75, 76, 77, 78, 79, 80, 81, 82] (by decide +kernel) (by decide +kernel)
set_option maxRecDepth 20000 in
theorem gX3_mixMember_X3_share : GoodIn wsX3_mixMember (wsV RX3 131 RX3 yX3_share wsX3_share) := goodIn_app (goodIn_of _ (by decide +kernel)) ggX3_mixMember_X3_share
theorem dX3_mixMember_0 : decode cX3_mixMember 0 = .ok (.iconst 0, 1) := by decide +kernel
theorem dX3_mixMember_1 : decode cX3_mixMember 1 = .ok (.istore_n 2, 1) := by decide +kernel
theorem dX3_mixMember_2 : decode cX3_mixMember 2 = .ok (.iload_n 2, 1) := by decide +kernel
theorem dX3_mixMember_3 : decode cX3_mixMember 3 = .ok (.bipush 10, 2) := by decide +kernel
theorem dX3_mixMember_5 : decode cX3_mixMember 5 = .ok (.if_icmp .ge 20, 3) := by decide +kernel
theorem dX3_mixMember_8 : decode cX3_mixMember 8 = .ok (.aload_n 0, 1) := by decide +kernel
theorem dX3_mixMember_9 : decode cX3_mixMember 9 = .ok (.aload_n 0, 1) := by decide +kernel
theorem dX3_mixMember_10 : decode cX3_mixMember 10 = .ok (.iload_n 1, 1) := by decide +kernel
theorem dX3_mixMember_11 : decode cX3_mixMember 11 = .ok (.iload_n 2, 1) := by decide +kernel
theorem dX3_mixMember_12 : decode cX3_mixMember 12 = .ok (.invokevirtual 180, 3) := by decide +kernel
theorem dX3_mixMember_15 : decode cX3_mixMember 15 = .ok (.i2l, 1) := by decide +kernel
theorem dX3_mixMember_16 : decode cX3_mixMember 16 = .ok (.invokevirtual 219, 3) := by decide +kernel
theorem dX3_mixMember_19 : decode cX3_mixMember 19 = .ok (.iinc 2 1, 3) := by decide +kernel
theorem dX3_mixMember_22 : decode cX3_mixMember 22 = .ok (.goto (-20), 3) := by decide +kernel
theorem dX3_mixMember_25 : decode cX3_mixMember 25 = .ok (.iconst 0, 1) := by decide +kernel
theorem dX3_mixMember_26 : decode cX3_mixMember 26 = .ok (.istore_n 2, 1) := by decide +kernel
theorem dX3_mixMember_27 : decode cX3_mixMember 27 = .ok (.iload_n 2, 1) := by decide +kernel
theorem dX3_mixMember_28 : decode cX3_mixMember 28 = .ok (.bipush 6, 2) := by decide +kernel
theorem dX3_mixMember_30 : decode cX3_mixMember 30 = .ok (.if_icmp .ge 20, 3) := by decide +kernel
theorem dX3_mixMember_33 : decode cX3_mixMember 33 = .ok (.aload_n 0, 1) := by decide +kernel
theorem dX3_mixMember_34 : decode cX3_mixMember 34 = .ok (.aload_n 0, 1) := by decide +kernel
theorem dX3_mixMember_35 : decode cX3_mixMember 35 = .ok (.iload_n 1, 1) := by decide +kernel
theorem dX3_mixMember_36 : decode cX3_mixMember 36 = .ok (.iload_n 2, 1) := by decide +kernel
theorem dX3_mixMember_37 : decode cX3_mixMember 37 = .ok (.invokevirtual 31, 3) := by decide +kernel
theorem dX3_mixMember_40 : decode cX3_mixMember 40 = .ok (.i2l, 1) := by decide +kernel
theorem dX3_mixMember_41 : decode cX3_mixMember 41 = .ok (.invokevirtual 219, 3) := by decide +kernel
theorem dX3_mixMember_44 : decode cX3_mixMember 44 = .ok (.iinc 2 1, 3) := by decide +kernel
theorem dX3_mixMember_47 : decode cX3_mixMember 47 = .ok (.goto (-20), 3) := by decide +kernel
theorem dX3_mixMember_50 : decode cX3_mixMember 50 = .ok (.iconst 0, 1) := by decide +kernel
theorem dX3_mixMember_51 : decode cX3_mixMember 51 = .ok (.istore_n 2, 1) := by decide +kernel
theorem dX3_mixMember_52 : decode cX3_mixMember 52 = .ok (.iload_n 2, 1) := by decide +kernel
theorem dX3_mixMember_53 : decode cX3_mixMember 53 = .ok (.iconst 2, 1) := by decide +kernel
theorem dX3_mixMember_54 : decode cX3_mixMember 54 = .ok (.if_icmp .ge 19, 3) := by decide +kernel
theorem dX3_mixMember_57 : decode cX3_mixMember 57 = .ok (.aload_n 0, 1) := by decide +kernel
theorem dX3_mixMember_58 : decode cX3_mixMember 58 = .ok (.aload_n 0, 1) := by decide +kernel
theorem dX3_mixMember_59 : decode cX3_mixMember 59 = .ok (.iload_n 1, 1) := by decide +kernel
theorem dX3_mixMember_60 : decode cX3_mixMember 60 = .ok (.invokevirtual 189, 3) := by decide +kernel
theorem dX3_mixMember_63 : decode cX3_mixMember 63 = .ok (.i2l, 1) := by decide +kernel
theorem dX3_mixMember_64 : decode cX3_mixMember 64 = .ok (.invokevirtual 219, 3) := by decide +kernel
theorem dX3_mixMember_67 : decode cX3_mixMember 67 = .ok (.iinc 2 1, 3) := by decide +kernel
theorem dX3_mixMember_70 : decode cX3_mixMember 70 = .ok (.goto (-18), 3) := by decide +kernel
theorem dX3_mixMember_73 : decode cX3_mixMember 73 = .ok (.iconst 0, 1) := by decide +kernel
theorem dX3_mixMember_74 : decode cX3_mixMember 74 = .ok (.istore_n 2, 1) := by decide +kernel
theorem dX3_mixMember_75 : decode cX3_mixMember 75 = .ok (.iload_n 2, 1) := by decide +kernel
theorem dX3_mixMember_76 : decode cX3_mixMember 76 = .ok (.iconst 4, 1) := by decide +kernel
theorem dX3_mixMember_77 : decode cX3_mixMember 77 = .ok (.if_icmp .ge 33, 3) := by decide +kernel
theorem dX3_mixMember_80 : decode cX3_mixMember 80 = .ok (.aload_n 0, 1) := by decide +kernel
theorem dX3_mixMember_81 : decode cX3_mixMember 81 = .ok (.aload_n 0, 1) := by decide +kernel
theorem dX3_mixMember_82 : decode cX3_mixMember 82 = .ok (.iload_n 1, 1) := by decide +kernel
theorem dX3_mixMember_83 : decode cX3_mixMember 83 = .ok (.iload_n 2, 1) := by decide +kernel
theorem dX3_mixMember_84 : decode cX3_mixMember 84 = .ok (.iconst 2, 1) := by decide +kernel
theorem dX3_mixMember_85 : decode cX3_mixMember 85 = .ok (.if_icmp .ge 9, 3) := by decide +kernel
theorem dX3_mixMember_88 : decode cX3_mixMember 88 = .ok (.sipush 500, 3) := by decide +kernel
theorem dX3_mixMember_91 : decode cX3_mixMember 91 = .ok (.goto 6, 3) := by decide +kernel
theorem dX3_mixMember_94 : decode cX3_mixMember 94 = .ok (.sipush 5000, 3) := by decide +kernel
theorem dX3_mixMember_97 : decode cX3_mixMember 97 = .ok (.invokevirtual 192, 3) := by decide +kernel
theorem dX3_mixMember_100 : decode cX3_mixMember 100 = .ok (.i2l, 1) := by decide +kernel
theorem dX3_mixMember_101 : decode cX3_mixMember 101 = .ok (.invokevirtual 219, 3) := by decide +kernel
theorem dX3_mixMember_104 : decode cX3_mixMember 104 = .ok (.iinc 2 1, 3) := by decide +kernel
theorem dX3_mixMember_107 : decode cX3_mixMember 107 = .ok (.goto (-32), 3) := by decide +kernel
theorem dX3_mixMember_110 : decode cX3_mixMember 110 = .ok (.iconst 0, 1) := by decide +kernel
theorem dX3_mixMember_111 : decode cX3_mixMember 111 = .ok (.istore_n 2, 1) := by decide +kernel
theorem dX3_mixMember_112 : decode cX3_mixMember 112 = .ok (.iload_n 2, 1) := by decide +kernel
theorem dX3_mixMember_113 : decode cX3_mixMember 113 = .ok (.iconst 2, 1) := by decide +kernel
theorem dX3_mixMember_114 : decode cX3_mixMember 114 = .ok (.if_icmp .ge 19, 3) := by decide +kernel
theorem dX3_mixMember_117 : decode cX3_mixMember 117 = .ok (.aload_n 0, 1) := by decide +kernel
theorem dX3_mixMember_118 : decode cX3_mixMember 118 = .ok (.aload_n 0, 1) := by decide +kernel
theorem dX3_mixMember_119 : decode cX3_mixMember 119 = .ok (.iload_n 1, 1) := by decide +kernel
theorem dX3_mixMember_120 : decode cX3_mixMember 120 = .ok (.invokevirtual 195, 3) := by decide +kernel
theorem dX3_mixMember_123 : decode cX3_mixMember 123 = .ok (.i2l, 1) := by decide +kernel
theorem dX3_mixMember_124 : decode cX3_mixMember 124 = .ok (.invokevirtual 219, 3) := by decide +kernel
theorem dX3_mixMember_127 : decode cX3_mixMember 127 = .ok (.iinc 2 1, 3) := by decide +kernel
theorem dX3_mixMember_130 : decode cX3_mixMember 130 = .ok (.goto (-18), 3) := by decide +kernel
theorem dX3_mixMember_133 : decode cX3_mixMember 133 = .ok (.aload_n 0, 1) := by decide +kernel
theorem dX3_mixMember_134 : decode cX3_mixMember 134 = .ok (.aload_n 0, 1) := by decide +kernel
theorem dX3_mixMember_135 : decode cX3_mixMember 135 = .ok (.iload_n 1, 1) := by decide +kernel
theorem dX3_mixMember_136 : decode cX3_mixMember 136 = .ok (.invokevirtual 131, 3) := by decide +kernel
theorem dX3_mixMember_139 : decode cX3_mixMember 139 = .ok (.i2l, 1) := by decide +kernel
theorem dX3_mixMember_140 : decode cX3_mixMember 140 = .ok (.invokevirtual 219, 3) := by decide +kernel
theorem dX3_mixMember_143 : decode cX3_mixMember 143 = .ok (.return_, 1) := by decide +kernel
set_option maxRecDepth 20000 in
theorem ggX3_digest_X3_counted : GoodIn wsX3_digest wsX3_counted := goodIn_r _ [12, 4, 13, 14, 15, 16, 11, 17, 18, 19, 20, 21, 22, 23, 24, 25, 106, 107, 108, 109, 110, 111, 112, 113, 114, 115, 116, 117, 118, 119] (by decide +kernel) (by decide +kernel)
set_option maxRecDepth 20000 in
theorem gX3_digest_X3_counted : GoodIn wsX3_digest (wsV RX3 186 RX3 yX3_counted wsX3_counted) := goodIn_app (goodIn_of _ (by decide +kernel)) ggX3_digest_X3_counted
set_option maxRecDepth 20000 in
theorem ggX3_digest_X3_mix : GoodIn wsX3_digest wsX3_mix := goodIn_r _ [29, 30, 3, 106, 107, 108, 109, 110, 111, 112, 113, 114, 115, 116, 117, 118, 119] (by decide +kernel) (by decide +kernel)
set_option maxRecDepth 20000 in
theorem gX3_digest_X3_mix : GoodIn wsX3_digest (wsV RX3 219 RX3 yX3_mix wsX3_mix) := goodIn_app (goodIn_of _ (by decide +kernel)) ggX3_digest_X3_mix
set_option maxRecDepth 20000 in
theorem ggX3_digest_X3_mixMember : GoodIn wsX3_digest wsX3_mixMember := goodIn_r _ [34, 35, 36, 37, 11, 38, 18, 19, 20, 21, 4, 39, 40, 41, 42, 43, 44, 45, 46, 47, 48, 49, 50, 51, 52, 53, 54, 55, 56, 57, 58, 59, 60, 61, 62, 26, 27, 28, 29, 30, 3, 63, 64, 65, 66, 67, 68, 69, 70, 71, 72, 73, 74, 75, 76, 77, 78, 79, 80, 81, 82, 83, 84, 85, 86, 87, 88, 89, 90, 106, 107, 108, 109, 110, 111, 112, 113, 114, 115, 116, 117, 118, 119] (by decide +kernel) (by decide +kernel)
set_option maxRecDepth 20000 in
theorem gX3_digest_X3_mixMember : GoodIn wsX3_digest (wsV RX3 225 RX3 yX3_mixMember wsX3_mixMember) := goodIn_app (goodIn_of _ (by decide +kernel)) ggX3_digest_X3_mixMember
set_option maxRecDepth 20000 in
theorem ggX3_digest_X3_risky : GoodIn wsX3_digest wsX3_risky := goodIn_r _ [94, 18, 19, 20, 11, 21, 4, 55, 56, 57, 58, 39, 40, 41, 42, 43, 44, 45, 46, 106, 107, 108, 109, 110, 111, 112, 113, 114, 115, 116, 117, 118, 119] (by decide +kernel) (by decide +kernel)
set_option maxRecDepth 20000 in
theorem gX3_digest_X3_risky : GoodIn wsX3_digest (wsV RX3 198 RX3 yX3_risky wsX3_risky) := goodIn_app (goodIn_of _ (by decide +kernel)) ggX3_digest_X3_risky
set_option maxRecDepth 20000 in
theorem ggX3_digest_X3_lent : GoodIn wsX3_digest wsX3_lent := goodIn_r _ [98, 14, 15, 16, 11, 17, 18, 19, 20, 21, 4, 106, 107, 108, 109, 110, 111, 112, 113, 114, 115, 116, 117, 118, 119] (by decide +kernel) (by decide +kernel)
set_option maxRecDepth 20000 in
theorem gX3_digest_X3_lent : GoodIn wsX3_digest (wsV RX3 201 RX3 yX3_lent wsX3_lent) := goodIn_app (goodIn_of _ (by decide +kernel)) ggX3_digest_X3_lent
set_option maxRecDepth 20000 in
theorem ggX3_digest_X3_bits : GoodIn wsX3_digest wsX3_bits := goodIn_r _ [101, 102, 103, 104, 105] (by decide +kernel) (by decide +kernel)
set_option maxRecDepth 20000 in
theorem gX3_digest_X3_bits : GoodIn wsX3_digest (va_wsS RX3 228 yX3_bits wsX3_bits) := goodIn_app (goodIn_of _ (by decide +kernel)) ggX3_digest_X3_bits
theorem dX3_digest_0 : decode cX3_digest 0 = .ok (.aload_n 0, 1) := by decide +kernel
theorem dX3_digest_1 : decode cX3_digest 1 = .ok (.iconst 0, 1) := by decide +kernel
theorem dX3_digest_2 : decode cX3_digest 2 = .ok (.putfield 23, 3) := by decide +kernel
theorem dX3_digest_5 : decode cX3_digest 5 = .ok (.aload_n 0, 1) := by decide +kernel
theorem dX3_digest_6 : decode cX3_digest 6 = .ok (.ldc2_w 223, 3) := by decide +kernel
theorem dX3_digest_9 : decode cX3_digest 9 = .ok (.putfield 207, 3) := by decide +kernel
theorem dX3_digest_12 : decode cX3_digest 12 = .ok (.iconst 0, 1) := by decide +kernel
theorem dX3_digest_13 : decode cX3_digest 13 = .ok (.istore_n 1, 1) := by decide +kernel
theorem dX3_digest_14 : decode cX3_digest 14 = .ok (.iload_n 1, 1) := by decide +kernel
theorem dX3_digest_15 : decode cX3_digest 15 = .ok (.bipush 12, 2) := by decide +kernel
theorem dX3_digest_17 : decode cX3_digest 17 = .ok (.if_icmp .ge 19, 3) := by decide +kernel
theorem dX3_digest_20 : decode cX3_digest 20 = .ok (.aload_n 0, 1) := by decide +kernel
theorem dX3_digest_21 : decode cX3_digest 21 = .ok (.aload_n 0, 1) := by decide +kernel
theorem dX3_digest_22 : decode cX3_digest 22 = .ok (.iload_n 1, 1) := by decide +kernel
theorem dX3_digest_23 : decode cX3_digest 23 = .ok (.invokevirtual 186, 3) := by decide +kernel
theorem dX3_digest_26 : decode cX3_digest 26 = .ok (.i2l, 1) := by decide +kernel
theorem dX3_digest_27 : decode cX3_digest 27 = .ok (.invokevirtual 219, 3) := by decide +kernel
theorem dX3_digest_30 : decode cX3_digest 30 = .ok (.iinc 1 1, 3) := by decide +kernel
theorem dX3_digest_33 : decode cX3_digest 33 = .ok (.goto (-19), 3) := by decide +kernel
theorem dX3_digest_36 : decode cX3_digest 36 = .ok (.aload_n 0, 1) := by decide +kernel
theorem dX3_digest_37 : decode cX3_digest 37 = .ok (.aload_n 0, 1) := by decide +kernel
theorem dX3_digest_38 : decode cX3_digest 38 = .ok (.getfield 7, 3) := by decide +kernel
theorem dX3_digest_41 : decode cX3_digest 41 = .ok (.bipush 8, 2) := by decide +kernel
theorem dX3_digest_43 : decode cX3_digest 43 = .ok (.iaload, 1) := by decide +kernel
theorem dX3_digest_44 : decode cX3_digest 44 = .ok (.i2l, 1) := by decide +kernel
theorem dX3_digest_45 : decode cX3_digest 45 = .ok (.invokevirtual 219, 3) := by decide +kernel
theorem dX3_digest_48 : decode cX3_digest 48 = .ok (.aload_n 0, 1) := by decide +kernel
theorem dX3_digest_49 : decode cX3_digest 49 = .ok (.aload_n 0, 1) := by decide +kernel
theorem dX3_digest_50 : decode cX3_digest 50 = .ok (.getfield 7, 3) := by decide +kernel
theorem dX3_digest_53 : decode cX3_digest 53 = .ok (.bipush 9, 2) := by decide +kernel
theorem dX3_digest_55 : decode cX3_digest 55 = .ok (.iaload, 1) := by decide +kernel
theorem dX3_digest_56 : decode cX3_digest 56 = .ok (.i2l, 1) := by decide +kernel
theorem dX3_digest_57 : decode cX3_digest 57 = .ok (.invokevirtual 219, 3) := by decide +kernel
theorem dX3_digest_60 : decode cX3_digest 60 = .ok (.iconst 0, 1) := by decide +kernel
theorem dX3_digest_61 : decode cX3_digest 61 = .ok (.istore_n 1, 1) := by decide +kernel
theorem dX3_digest_62 : decode cX3_digest 62 = .ok (.iload_n 1, 1) := by decide +kernel
theorem dX3_digest_63 : decode cX3_digest 63 = .ok (.bipush 6, 2) := by decide +kernel
theorem dX3_digest_65 : decode cX3_digest 65 = .ok (.if_icmp .ge 14, 3) := by decide +kernel
theorem dX3_digest_68 : decode cX3_digest 68 = .ok (.aload_n 0, 1) := by decide +kernel
theorem dX3_digest_69 : decode cX3_digest 69 = .ok (.iload_n 1, 1) := by decide +kernel
theorem dX3_digest_70 : decode cX3_digest 70 = .ok (.invokevirtual 225, 3) := by decide +kernel
theorem dX3_digest_73 : decode cX3_digest 73 = .ok (.iinc 1 1, 3) := by decide +kernel
theorem dX3_digest_76 : decode cX3_digest 76 = .ok (.goto (-14), 3) := by decide +kernel
theorem dX3_digest_79 : decode cX3_digest 79 = .ok (.aload_n 0, 1) := by decide +kernel
theorem dX3_digest_80 : decode cX3_digest 80 = .ok (.aload_n 0, 1) := by decide +kernel
theorem dX3_digest_81 : decode cX3_digest 81 = .ok (.invokevirtual 198, 3) := by decide +kernel
theorem dX3_digest_84 : decode cX3_digest 84 = .ok (.i2l, 1) := by decide +kernel
theorem dX3_digest_85 : decode cX3_digest 85 = .ok (.invokevirtual 219, 3) := by decide +kernel
theorem dX3_digest_88 : decode cX3_digest 88 = .ok (.aload_n 0, 1) := by decide +kernel
theorem dX3_digest_89 : decode cX3_digest 89 = .ok (.aload_n 0, 1) := by decide +kernel
theorem dX3_digest_90 : decode cX3_digest 90 = .ok (.invokevirtual 201, 3) := by decide +kernel
theorem dX3_digest_93 : decode cX3_digest 93 = .ok (.invokestatic 228, 3) := by decide +kernel
theorem dX3_digest_96 : decode cX3_digest 96 = .ok (.invokevirtual 219, 3) := by decide +kernel
theorem dX3_digest_99 : decode cX3_digest 99 = .ok (.aload_n 0, 1) := by decide +kernel
theorem dX3_digest_100 : decode cX3_digest 100 = .ok (.aload_n 0, 1) := by decide +kernel
theorem dX3_digest_101 : decode cX3_digest 101 = .ok (.getfield 13, 3) := by decide +kernel
theorem dX3_digest_104 : decode cX3_digest 104 = .ok (.iconst 0, 1) := by decide +kernel
theorem dX3_digest_105 : decode cX3_digest 105 = .ok (.baload, 1) := by decide +kernel
theorem dX3_digest_106 : decode cX3_digest 106 = .ok (.ifCond .eq 7, 3) := by decide +kernel
theorem dX3_digest_109 : decode cX3_digest 109 = .ok (.lconst 1, 1) := by decide +kernel
theorem dX3_digest_110 : decode cX3_digest 110 = .ok (.goto 4, 3) := by decide +kernel
theorem dX3_digest_113 : decode cX3_digest 113 = .ok (.lconst 0, 1) := by decide +kernel
theorem dX3_digest_114 : decode cX3_digest 114 = .ok (.invokevirtual 219, 3) := by decide +kernel
theorem dX3_digest_117 : decode cX3_digest 117 = .ok (.aload_n 0, 1) := by decide +kernel
theorem dX3_digest_118 : decode cX3_digest 118 = .ok (.aload_n 0, 1) := by decide +kernel
theorem dX3_digest_119 : decode cX3_digest 119 = .ok (.getfield 13, 3) := by decide +kernel
theorem dX3_digest_122 : decode cX3_digest 122 = .ok (.iconst 1, 1) := by decide +kernel
theorem dX3_digest_123 : decode cX3_digest 123 = .ok (.baload, 1) := by decide +kernel
theorem dX3_digest_124 : decode cX3_digest 124 = .ok (.ifCond .eq 7, 3) := by decide +kernel
theorem dX3_digest_127 : decode cX3_digest 127 = .ok (.lconst 1, 1) := by decide +kernel
theorem dX3_digest_128 : decode cX3_digest 128 = .ok (.goto 4, 3) := by decide +kernel
theorem dX3_digest_131 : decode cX3_digest 131 = .ok (.lconst 0, 1) := by decide +kernel
theorem dX3_digest_132 : decode cX3_digest 132 = .ok (.invokevirtual 219, 3) := by decide +kernel
theorem dX3_digest_135 : decode cX3_digest 135 = .ok (.aload_n 0, 1) := by decide +kernel
theorem dX3_digest_136 : decode cX3_digest 136 = .ok (.aload_n 0, 1) := by decide +kernel
theorem dX3_digest_137 : decode cX3_digest 137 = .ok (.getfield 134, 3) := by decide +kernel
theorem dX3_digest_140 : decode cX3_digest 140 = .ok (.i2l, 1) := by decide +kernel
theorem dX3_digest_141 : decode cX3_digest 141 = .ok (.invokevirtual 219, 3) := by decide +kernel
theorem dX3_digest_144 : decode cX3_digest 144 = .ok (.iconst 0, 1) := by decide +kernel
theorem dX3_digest_145 : decode cX3_digest 145 = .ok (.istore_n 1, 1) := by decide +kernel
theorem dX3_digest_146 : decode cX3_digest 146 = .ok (.iload_n 1, 1) := by decide +kernel
theorem dX3_digest_147 : decode cX3_digest 147 = .ok (.aload_n 0, 1) := by decide +kernel
theorem dX3_digest_148 : decode cX3_digest 148 = .ok (.getfield 134, 3) := by decide +kernel
theorem dX3_digest_151 : decode cX3_digest 151 = .ok (.if_icmp .ge 20, 3) := by decide +kernel
theorem dX3_digest_154 : decode cX3_digest 154 = .ok (.aload_n 0, 1) := by decide +kernel
theorem dX3_digest_155 : decode cX3_digest 155 = .ok (.aload_n 0, 1) := by decide +kernel
theorem dX3_digest_156 : decode cX3_digest 156 = .ok (.getfield 17, 3) := by decide +kernel
theorem dX3_digest_159 : decode cX3_digest 159 = .ok (.iload_n 1, 1) := by decide +kernel
theorem dX3_digest_160 : decode cX3_digest 160 = .ok (.iaload, 1) := by decide +kernel
theorem dX3_digest_161 : decode cX3_digest 161 = .ok (.i2l, 1) := by decide +kernel
theorem dX3_digest_162 : decode cX3_digest 162 = .ok (.invokevirtual 219, 3) := by decide +kernel
theorem dX3_digest_165 : decode cX3_digest 165 = .ok (.iinc 1 1, 3) := by decide +kernel
theorem dX3_digest_168 : decode cX3_digest 168 = .ok (.goto (-22), 3) := by decide +kernel
theorem dX3_digest_171 : decode cX3_digest 171 = .ok (.aload_n 0, 1) := by decide +kernel
theorem dX3_digest_172 : decode cX3_digest 172 = .ok (.getfield 207, 3) := by decide +kernel
theorem dX3_digest_175 : decode cX3_digest 175 = .ok (.lreturn, 1) := by decide +kernel

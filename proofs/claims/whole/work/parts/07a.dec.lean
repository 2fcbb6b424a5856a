/-! decode rows of the reader -/
theorem dX1_init_0 : decode cX1_init 0 = .ok (.aload_n 0, 1) := by decide +kernel
theorem dX1_init_1 : decode cX1_init 1 = .ok (.invokespecial 3, 3) := by decide +kernel
theorem dX1_init_4 : decode cX1_init 4 = .ok (.return_, 1) := by decide +kernel
theorem dX1_restart_0 : decode cX1_restart 0 = .ok (.aload_n 0, 1) := by decide +kernel
theorem dX1_restart_1 : decode cX1_restart 1 = .ok (.iconst 0, 1) := by decide +kernel
theorem dX1_restart_2 : decode cX1_restart 2 = .ok (.putfield 11, 3) := by decide +kernel
theorem dX1_restart_5 : decode cX1_restart 5 = .ok (.aload_n 0, 1) := by decide +kernel
theorem dX1_restart_6 : decode cX1_restart 6 = .ok (.bipush 59, 2) := by decide +kernel
theorem dX1_restart_8 : decode cX1_restart 8 = .ok (.putfield 15, 3) := by decide +kernel
theorem dX1_restart_11 : decode cX1_restart 11 = .ok (.aload_n 0, 1) := by decide +kernel
theorem dX1_restart_12 : decode cX1_restart 12 = .ok (.iconst 0, 1) := by decide +kernel
theorem dX1_restart_13 : decode cX1_restart 13 = .ok (.putfield 19, 3) := by decide +kernel
theorem dX1_restart_16 : decode cX1_restart 16 = .ok (.aload_n 0, 1) := by decide +kernel
theorem dX1_restart_17 : decode cX1_restart 17 = .ok (.iconst 0, 1) := by decide +kernel
theorem dX1_restart_18 : decode cX1_restart 18 = .ok (.putfield 22, 3) := by decide +kernel
theorem dX1_restart_21 : decode cX1_restart 21 = .ok (.return_, 1) := by decide +kernel
theorem dX1_isWhole_0 : decode cX1_isWhole 0 = .ok (.aload_n 0, 1) := by decide +kernel
theorem dX1_isWhole_1 : decode cX1_isWhole 1 = .ok (.getfield 11, 3) := by decide +kernel
theorem dX1_isWhole_4 : decode cX1_isWhole 4 = .ok (.lookupswitch 63 #[(5, 28), (6, 50)], 28) := by decide +kernel
theorem dX1_isWhole_32 : decode cX1_isWhole 32 = .ok (.aload_n 0, 1) := by decide +kernel
theorem dX1_isWhole_33 : decode cX1_isWhole 33 = .ok (.getfield 19, 3) := by decide +kernel
theorem dX1_isWhole_36 : decode cX1_isWhole 36 = .ok (.ifCond .le 16, 3) := by decide +kernel
theorem dX1_isWhole_39 : decode cX1_isWhole 39 = .ok (.aload_n 0, 1) := by decide +kernel
theorem dX1_isWhole_40 : decode cX1_isWhole 40 = .ok (.getfield 15, 3) := by decide +kernel
theorem dX1_isWhole_43 : decode cX1_isWhole 43 = .ok (.bipush 98, 2) := by decide +kernel
theorem dX1_isWhole_45 : decode cX1_isWhole 45 = .ok (.if_icmp .eq 7, 3) := by decide +kernel
theorem dX1_isWhole_48 : decode cX1_isWhole 48 = .ok (.iconst 1, 1) := by decide +kernel
theorem dX1_isWhole_49 : decode cX1_isWhole 49 = .ok (.goto 4, 3) := by decide +kernel
theorem dX1_isWhole_52 : decode cX1_isWhole 52 = .ok (.iconst 0, 1) := by decide +kernel
theorem dX1_isWhole_53 : decode cX1_isWhole 53 = .ok (.ireturn, 1) := by decide +kernel
theorem dX1_isWhole_54 : decode cX1_isWhole 54 = .ok (.aload_n 0, 1) := by decide +kernel
theorem dX1_isWhole_55 : decode cX1_isWhole 55 = .ok (.getfield 22, 3) := by decide +kernel
theorem dX1_isWhole_58 : decode cX1_isWhole 58 = .ok (.ifCond .le 7, 3) := by decide +kernel
theorem dX1_isWhole_61 : decode cX1_isWhole 61 = .ok (.iconst 1, 1) := by decide +kernel
theorem dX1_isWhole_62 : decode cX1_isWhole 62 = .ok (.goto 4, 3) := by decide +kernel
theorem dX1_isWhole_65 : decode cX1_isWhole 65 = .ok (.iconst 0, 1) := by decide +kernel
theorem dX1_isWhole_66 : decode cX1_isWhole 66 = .ok (.ireturn, 1) := by decide +kernel
theorem dX1_isWhole_67 : decode cX1_isWhole 67 = .ok (.aload_n 0, 1) := by decide +kernel
theorem dX1_isWhole_68 : decode cX1_isWhole 68 = .ok (.getfield 11, 3) := by decide +kernel
theorem dX1_isWhole_71 : decode cX1_isWhole 71 = .ok (.bipush 7, 2) := by decide +kernel
theorem dX1_isWhole_73 : decode cX1_isWhole 73 = .ok (.if_icmp .ne 7, 3) := by decide +kernel
theorem dX1_isWhole_76 : decode cX1_isWhole 76 = .ok (.iconst 1, 1) := by decide +kernel
theorem dX1_isWhole_77 : decode cX1_isWhole 77 = .ok (.goto 4, 3) := by decide +kernel
theorem dX1_isWhole_80 : decode cX1_isWhole 80 = .ok (.iconst 0, 1) := by decide +kernel
theorem dX1_isWhole_81 : decode cX1_isWhole 81 = .ok (.ireturn, 1) := by decide +kernel
set_option maxRecDepth 20000 in
theorem ggX1_take_X1_takeEnd : GoodIn wsX1_take wsX1_takeEnd := goodIn_r _ [6, 7, 8, 9, 5, 10, 1, 11, 12, 13, 14, 15, 16, 17, 50, 51, 52, 53, 54, 55] (by decide +kernel) (by decide +kernel)
set_option maxRecDepth 20000 in
theorem gX1_take_X1_takeEnd : GoodIn wsX1_take (wsV RX1 25 RX1 yX1_takeEnd wsX1_takeEnd) := goodIn_app (goodIn_of _ (by decide +kernel)) ggX1_take_X1_takeEnd
set_option maxRecDepth 20000 in
theorem ggX1_take_X1_takeKind : GoodIn wsX1_take wsX1_takeKind := goodIn_r _ [21, 12, 1, 50, 51, 52, 53, 54, 55] (by decide +kernel) (by decide +kernel)
set_option maxRecDepth 20000 in
theorem gX1_take_X1_takeKind : GoodIn wsX1_take (wsV RX1 29 RX1 yX1_takeKind wsX1_takeKind) := goodIn_app (goodIn_of _ (by decide +kernel)) ggX1_take_X1_takeKind
set_option maxRecDepth 20000 in
theorem ggX1_take_X1_takeMember : GoodIn wsX1_take wsX1_takeMember := goodIn_r _ [25, 26, 12, 1, 27, 28, 5, 29, 50, 51, 52, 53, 54, 55] (by decide +kernel) (by decide +kernel)
set_option maxRecDepth 20000 in
theorem gX1_take_X1_takeMember : GoodIn wsX1_take (wsV RX1 33 RX1 yX1_takeMember wsX1_takeMember) := goodIn_app (goodIn_of _ (by decide +kernel)) ggX1_take_X1_takeMember
set_option maxRecDepth 20000 in
theorem ggX1_take_X1_takeMark : GoodIn wsX1_take wsX1_takeMark := goodIn_r _ [33, 1, 50, 51, 52, 53, 54, 55] (by decide +kernel) (by decide +kernel)
set_option maxRecDepth 20000 in
theorem gX1_take_X1_takeMark : GoodIn wsX1_take (wsV RX1 36 RX1 yX1_takeMark wsX1_takeMark) := goodIn_app (goodIn_of _ (by decide +kernel)) ggX1_take_X1_takeMark
set_option maxRecDepth 20000 in
theorem ggX1_take_X1_takeBorrower : GoodIn wsX1_take wsX1_takeBorrower := goodIn_r _ [37, 26, 38, 1, 27, 28, 5, 29, 50, 51, 52, 53, 54, 55] (by decide +kernel) (by decide +kernel)
set_option maxRecDepth 20000 in
theorem gX1_take_X1_takeBorrower : GoodIn wsX1_take (wsV RX1 40 RX1 yX1_takeBorrower wsX1_takeBorrower) := goodIn_app (goodIn_of _ (by decide +kernel)) ggX1_take_X1_takeBorrower
set_option maxRecDepth 20000 in
theorem ggX1_take_X1_takeAmount : GoodIn wsX1_take wsX1_takeAmount := goodIn_r _ [42, 12, 11, 1, 43, 44, 5, 45, 50, 51, 52, 53, 54, 55] (by decide +kernel) (by decide +kernel)
set_option maxRecDepth 20000 in
theorem gX1_take_X1_takeAmount : GoodIn wsX1_take (wsV RX1 43 RX1 yX1_takeAmount wsX1_takeAmount) := goodIn_app (goodIn_of _ (by decide +kernel)) ggX1_take_X1_takeAmount
set_option maxRecDepth 20000 in
theorem ggX1_take_X1_takeWeeks : GoodIn wsX1_take wsX1_takeWeeks := goodIn_r _ [49, 13, 43, 44, 5, 45, 50, 51, 52, 53, 54, 55] (by decide +kernel) (by decide +kernel)
set_option maxRecDepth 20000 in
theorem gX1_take_X1_takeWeeks : GoodIn wsX1_take (wsV RX1 46 RX1 yX1_takeWeeks wsX1_takeWeeks) := goodIn_app (goodIn_of _ (by decide +kernel)) ggX1_take_X1_takeWeeks
theorem dX1_take_0 : decode cX1_take 0 = .ok (.iload_n 1, 1) := by decide +kernel
theorem dX1_take_1 : decode cX1_take 1 = .ok (.bipush 59, 2) := by decide +kernel
theorem dX1_take_3 : decode cX1_take 3 = .ok (.if_icmp .ne 8, 3) := by decide +kernel
theorem dX1_take_6 : decode cX1_take 6 = .ok (.aload_n 0, 1) := by decide +kernel
theorem dX1_take_7 : decode cX1_take 7 = .ok (.invokevirtual 25, 3) := by decide +kernel
theorem dX1_take_10 : decode cX1_take 10 = .ok (.ireturn, 1) := by decide +kernel
theorem dX1_take_11 : decode cX1_take 11 = .ok (.aload_n 0, 1) := by decide +kernel
theorem dX1_take_12 : decode cX1_take 12 = .ok (.getfield 11, 3) := by decide +kernel
theorem dX1_take_15 : decode cX1_take 15 = .ok (.tableswitch 89 0 6 #[41, 47, 53, 62, 68, 77, 83], 41) := by decide +kernel
theorem dX1_take_56 : decode cX1_take 56 = .ok (.aload_n 0, 1) := by decide +kernel
theorem dX1_take_57 : decode cX1_take 57 = .ok (.iload_n 1, 1) := by decide +kernel
theorem dX1_take_58 : decode cX1_take 58 = .ok (.invokevirtual 29, 3) := by decide +kernel
theorem dX1_take_61 : decode cX1_take 61 = .ok (.ireturn, 1) := by decide +kernel
theorem dX1_take_62 : decode cX1_take 62 = .ok (.aload_n 0, 1) := by decide +kernel
theorem dX1_take_63 : decode cX1_take 63 = .ok (.iload_n 1, 1) := by decide +kernel
theorem dX1_take_64 : decode cX1_take 64 = .ok (.invokevirtual 33, 3) := by decide +kernel
theorem dX1_take_67 : decode cX1_take 67 = .ok (.ireturn, 1) := by decide +kernel
theorem dX1_take_68 : decode cX1_take 68 = .ok (.aload_n 0, 1) := by decide +kernel
theorem dX1_take_69 : decode cX1_take 69 = .ok (.iload_n 1, 1) := by decide +kernel
theorem dX1_take_70 : decode cX1_take 70 = .ok (.bipush 62, 2) := by decide +kernel
theorem dX1_take_72 : decode cX1_take 72 = .ok (.iconst 3, 1) := by decide +kernel
theorem dX1_take_73 : decode cX1_take 73 = .ok (.invokevirtual 36, 3) := by decide +kernel
theorem dX1_take_76 : decode cX1_take 76 = .ok (.ireturn, 1) := by decide +kernel
theorem dX1_take_77 : decode cX1_take 77 = .ok (.aload_n 0, 1) := by decide +kernel
theorem dX1_take_78 : decode cX1_take 78 = .ok (.iload_n 1, 1) := by decide +kernel
theorem dX1_take_79 : decode cX1_take 79 = .ok (.invokevirtual 40, 3) := by decide +kernel
theorem dX1_take_82 : decode cX1_take 82 = .ok (.ireturn, 1) := by decide +kernel
theorem dX1_take_83 : decode cX1_take 83 = .ok (.aload_n 0, 1) := by decide +kernel
theorem dX1_take_84 : decode cX1_take 84 = .ok (.iload_n 1, 1) := by decide +kernel
theorem dX1_take_85 : decode cX1_take 85 = .ok (.bipush 58, 2) := by decide +kernel
theorem dX1_take_87 : decode cX1_take 87 = .ok (.iconst 5, 1) := by decide +kernel
theorem dX1_take_88 : decode cX1_take 88 = .ok (.invokevirtual 36, 3) := by decide +kernel
theorem dX1_take_91 : decode cX1_take 91 = .ok (.ireturn, 1) := by decide +kernel
theorem dX1_take_92 : decode cX1_take 92 = .ok (.aload_n 0, 1) := by decide +kernel
theorem dX1_take_93 : decode cX1_take 93 = .ok (.iload_n 1, 1) := by decide +kernel
theorem dX1_take_94 : decode cX1_take 94 = .ok (.invokevirtual 43, 3) := by decide +kernel
theorem dX1_take_97 : decode cX1_take 97 = .ok (.ireturn, 1) := by decide +kernel
theorem dX1_take_98 : decode cX1_take 98 = .ok (.aload_n 0, 1) := by decide +kernel
theorem dX1_take_99 : decode cX1_take 99 = .ok (.iload_n 1, 1) := by decide +kernel
theorem dX1_take_100 : decode cX1_take 100 = .ok (.invokevirtual 46, 3) := by decide +kernel
theorem dX1_take_103 : decode cX1_take 103 = .ok (.ireturn, 1) := by decide +kernel
theorem dX1_take_104 : decode cX1_take 104 = .ok (.iconst 0, 1) := by decide +kernel
theorem dX1_take_105 : decode cX1_take 105 = .ok (.ireturn, 1) := by decide +kernel
set_option maxRecDepth 20000 in
theorem ggX1_takeEnd_X1_isWhole : GoodIn wsX1_takeEnd wsX1_isWhole := goodIn_r _ [5, 6, 7, 8, 9, 14, 15, 16, 17, 18, 19] (by decide +kernel) (by decide +kernel)
set_option maxRecDepth 20000 in
theorem gX1_takeEnd_X1_isWhole : GoodIn wsX1_takeEnd (wsV RX1 49 RX1 yX1_isWhole wsX1_isWhole) := goodIn_app (goodIn_of _ (by decide +kernel)) ggX1_takeEnd_X1_isWhole
set_option maxRecDepth 20000 in
theorem ggX1_takeEnd_X1_restart : GoodIn wsX1_takeEnd wsX1_restart := goodIn_r _ [13, 6, 8, 7, 9, 14, 15, 16, 17, 18, 19] (by decide +kernel) (by decide +kernel)
set_option maxRecDepth 20000 in
theorem gX1_takeEnd_X1_restart : GoodIn wsX1_takeEnd (wsV RX1 52 RX1 yX1_restart wsX1_restart) := goodIn_app (goodIn_of _ (by decide +kernel)) ggX1_takeEnd_X1_restart
theorem dX1_takeEnd_0 : decode cX1_takeEnd 0 = .ok (.aload_n 0, 1) := by decide +kernel
theorem dX1_takeEnd_1 : decode cX1_takeEnd 1 = .ok (.invokevirtual 49, 3) := by decide +kernel
theorem dX1_takeEnd_4 : decode cX1_takeEnd 4 = .ok (.ifCond .ne 5, 3) := by decide +kernel
theorem dX1_takeEnd_7 : decode cX1_takeEnd 7 = .ok (.iconst 0, 1) := by decide +kernel
theorem dX1_takeEnd_8 : decode cX1_takeEnd 8 = .ok (.ireturn, 1) := by decide +kernel
theorem dX1_takeEnd_9 : decode cX1_takeEnd 9 = .ok (.aload_n 0, 1) := by decide +kernel
theorem dX1_takeEnd_10 : decode cX1_takeEnd 10 = .ok (.invokevirtual 52, 3) := by decide +kernel
theorem dX1_takeEnd_13 : decode cX1_takeEnd 13 = .ok (.iconst 1, 1) := by decide +kernel
theorem dX1_takeEnd_14 : decode cX1_takeEnd 14 = .ok (.ireturn, 1) := by decide +kernel
theorem dX1_takeKind_0 : decode cX1_takeKind 0 = .ok (.aload_n 0, 1) := by decide +kernel
theorem dX1_takeKind_1 : decode cX1_takeKind 1 = .ok (.iload_n 1, 1) := by decide +kernel
theorem dX1_takeKind_2 : decode cX1_takeKind 2 = .ok (.putfield 15, 3) := by decide +kernel
theorem dX1_takeKind_5 : decode cX1_takeKind 5 = .ok (.iload_n 1, 1) := by decide +kernel
theorem dX1_takeKind_6 : decode cX1_takeKind 6 = .ok (.lookupswitch 73 #[(43, 58), (45, 58), (98, 58), (112, 58), (114, 58), (119, 65)], 58) := by decide +kernel
theorem dX1_takeKind_64 : decode cX1_takeKind 64 = .ok (.aload_n 0, 1) := by decide +kernel
theorem dX1_takeKind_65 : decode cX1_takeKind 65 = .ok (.iconst 1, 1) := by decide +kernel
theorem dX1_takeKind_66 : decode cX1_takeKind 66 = .ok (.putfield 11, 3) := by decide +kernel
theorem dX1_takeKind_69 : decode cX1_takeKind 69 = .ok (.iconst 1, 1) := by decide +kernel
theorem dX1_takeKind_70 : decode cX1_takeKind 70 = .ok (.ireturn, 1) := by decide +kernel
theorem dX1_takeKind_71 : decode cX1_takeKind 71 = .ok (.aload_n 0, 1) := by decide +kernel
theorem dX1_takeKind_72 : decode cX1_takeKind 72 = .ok (.bipush 7, 2) := by decide +kernel
theorem dX1_takeKind_74 : decode cX1_takeKind 74 = .ok (.putfield 11, 3) := by decide +kernel
theorem dX1_takeKind_77 : decode cX1_takeKind 77 = .ok (.iconst 1, 1) := by decide +kernel
theorem dX1_takeKind_78 : decode cX1_takeKind 78 = .ok (.ireturn, 1) := by decide +kernel
theorem dX1_takeKind_79 : decode cX1_takeKind 79 = .ok (.iconst 0, 1) := by decide +kernel
theorem dX1_takeKind_80 : decode cX1_takeKind 80 = .ok (.ireturn, 1) := by decide +kernel
theorem dX1_isMember_0 : decode cX1_isMember 0 = .ok (.iload_n 0, 1) := by decide +kernel
theorem dX1_isMember_1 : decode cX1_isMember 1 = .ok (.bipush 48, 2) := by decide +kernel
theorem dX1_isMember_3 : decode cX1_isMember 3 = .ok (.if_icmp .lt 16, 3) := by decide +kernel
theorem dX1_isMember_6 : decode cX1_isMember 6 = .ok (.iload_n 0, 1) := by decide +kernel
theorem dX1_isMember_7 : decode cX1_isMember 7 = .ok (.bipush 48, 2) := by decide +kernel
theorem dX1_isMember_9 : decode cX1_isMember 9 = .ok (.isub, 1) := by decide +kernel
theorem dX1_isMember_10 : decode cX1_isMember 10 = .ok (.bipush 6, 2) := by decide +kernel
theorem dX1_isMember_12 : decode cX1_isMember 12 = .ok (.if_icmp .ge 7, 3) := by decide +kernel
theorem dX1_isMember_15 : decode cX1_isMember 15 = .ok (.iconst 1, 1) := by decide +kernel
theorem dX1_isMember_16 : decode cX1_isMember 16 = .ok (.goto 4, 3) := by decide +kernel
theorem dX1_isMember_19 : decode cX1_isMember 19 = .ok (.iconst 0, 1) := by decide +kernel
theorem dX1_isMember_20 : decode cX1_isMember 20 = .ok (.ireturn, 1) := by decide +kernel
set_option maxRecDepth 20000 in
theorem ggX1_takeMember_X1_isMember : GoodIn wsX1_takeMember wsX1_isMember := goodIn_r _ [7] (by decide +kernel) (by decide +kernel)
set_option maxRecDepth 20000 in
theorem gX1_takeMember_X1_isMember : GoodIn wsX1_takeMember (va_wsS RX1 55 yX1_isMember wsX1_isMember) := goodIn_app (goodIn_of _ (by decide +kernel)) ggX1_takeMember_X1_isMember
theorem dX1_takeMember_0 : decode cX1_takeMember 0 = .ok (.iload_n 1, 1) := by decide +kernel
theorem dX1_takeMember_1 : decode cX1_takeMember 1 = .ok (.invokestatic 55, 3) := by decide +kernel
theorem dX1_takeMember_4 : decode cX1_takeMember 4 = .ok (.ifCond .ne 5, 3) := by decide +kernel
theorem dX1_takeMember_7 : decode cX1_takeMember 7 = .ok (.iconst 0, 1) := by decide +kernel
theorem dX1_takeMember_8 : decode cX1_takeMember 8 = .ok (.ireturn, 1) := by decide +kernel
theorem dX1_takeMember_9 : decode cX1_takeMember 9 = .ok (.aload_n 0, 1) := by decide +kernel
theorem dX1_takeMember_10 : decode cX1_takeMember 10 = .ok (.iload_n 1, 1) := by decide +kernel
theorem dX1_takeMember_11 : decode cX1_takeMember 11 = .ok (.bipush 48, 2) := by decide +kernel
theorem dX1_takeMember_13 : decode cX1_takeMember 13 = .ok (.isub, 1) := by decide +kernel
theorem dX1_takeMember_14 : decode cX1_takeMember 14 = .ok (.putfield 58, 3) := by decide +kernel
theorem dX1_takeMember_17 : decode cX1_takeMember 17 = .ok (.aload_n 0, 1) := by decide +kernel
theorem dX1_takeMember_18 : decode cX1_takeMember 18 = .ok (.aload_n 0, 1) := by decide +kernel
theorem dX1_takeMember_19 : decode cX1_takeMember 19 = .ok (.getfield 15, 3) := by decide +kernel
theorem dX1_takeMember_22 : decode cX1_takeMember 22 = .ok (.bipush 112, 2) := by decide +kernel
theorem dX1_takeMember_24 : decode cX1_takeMember 24 = .ok (.if_icmp .ne 7, 3) := by decide +kernel
theorem dX1_takeMember_27 : decode cX1_takeMember 27 = .ok (.iconst 2, 1) := by decide +kernel
theorem dX1_takeMember_28 : decode cX1_takeMember 28 = .ok (.goto 4, 3) := by decide +kernel
theorem dX1_takeMember_31 : decode cX1_takeMember 31 = .ok (.iconst 4, 1) := by decide +kernel
theorem dX1_takeMember_32 : decode cX1_takeMember 32 = .ok (.putfield 11, 3) := by decide +kernel
theorem dX1_takeMember_35 : decode cX1_takeMember 35 = .ok (.iconst 1, 1) := by decide +kernel
theorem dX1_takeMember_36 : decode cX1_takeMember 36 = .ok (.ireturn, 1) := by decide +kernel
set_option maxRecDepth 20000 in
theorem ggX1_takeBorrower_X1_isMember : GoodIn wsX1_takeBorrower wsX1_isMember := goodIn_r _ [7] (by decide +kernel) (by decide +kernel)
set_option maxRecDepth 20000 in
theorem gX1_takeBorrower_X1_isMember : GoodIn wsX1_takeBorrower (va_wsS RX1 55 yX1_isMember wsX1_isMember) := goodIn_app (goodIn_of _ (by decide +kernel)) ggX1_takeBorrower_X1_isMember
theorem dX1_takeBorrower_0 : decode cX1_takeBorrower 0 = .ok (.iload_n 1, 1) := by decide +kernel
theorem dX1_takeBorrower_1 : decode cX1_takeBorrower 1 = .ok (.invokestatic 55, 3) := by decide +kernel
theorem dX1_takeBorrower_4 : decode cX1_takeBorrower 4 = .ok (.ifCond .eq 14, 3) := by decide +kernel
theorem dX1_takeBorrower_7 : decode cX1_takeBorrower 7 = .ok (.iload_n 1, 1) := by decide +kernel
theorem dX1_takeBorrower_8 : decode cX1_takeBorrower 8 = .ok (.bipush 48, 2) := by decide +kernel
theorem dX1_takeBorrower_10 : decode cX1_takeBorrower 10 = .ok (.isub, 1) := by decide +kernel
theorem dX1_takeBorrower_11 : decode cX1_takeBorrower 11 = .ok (.aload_n 0, 1) := by decide +kernel
theorem dX1_takeBorrower_12 : decode cX1_takeBorrower 12 = .ok (.getfield 58, 3) := by decide +kernel
theorem dX1_takeBorrower_15 : decode cX1_takeBorrower 15 = .ok (.if_icmp .ne 5, 3) := by decide +kernel
theorem dX1_takeBorrower_18 : decode cX1_takeBorrower 18 = .ok (.iconst 0, 1) := by decide +kernel
theorem dX1_takeBorrower_19 : decode cX1_takeBorrower 19 = .ok (.ireturn, 1) := by decide +kernel
theorem dX1_takeBorrower_20 : decode cX1_takeBorrower 20 = .ok (.aload_n 0, 1) := by decide +kernel
theorem dX1_takeBorrower_21 : decode cX1_takeBorrower 21 = .ok (.iload_n 1, 1) := by decide +kernel
theorem dX1_takeBorrower_22 : decode cX1_takeBorrower 22 = .ok (.bipush 48, 2) := by decide +kernel
theorem dX1_takeBorrower_24 : decode cX1_takeBorrower 24 = .ok (.isub, 1) := by decide +kernel
theorem dX1_takeBorrower_25 : decode cX1_takeBorrower 25 = .ok (.putfield 61, 3) := by decide +kernel
theorem dX1_takeBorrower_28 : decode cX1_takeBorrower 28 = .ok (.aload_n 0, 1) := by decide +kernel
theorem dX1_takeBorrower_29 : decode cX1_takeBorrower 29 = .ok (.iconst 4, 1) := by decide +kernel
theorem dX1_takeBorrower_30 : decode cX1_takeBorrower 30 = .ok (.putfield 11, 3) := by decide +kernel
theorem dX1_takeBorrower_33 : decode cX1_takeBorrower 33 = .ok (.iconst 1, 1) := by decide +kernel
theorem dX1_takeBorrower_34 : decode cX1_takeBorrower 34 = .ok (.ireturn, 1) := by decide +kernel
theorem dX1_takeMark_0 : decode cX1_takeMark 0 = .ok (.iload_n 1, 1) := by decide +kernel
theorem dX1_takeMark_1 : decode cX1_takeMark 1 = .ok (.iload_n 2, 1) := by decide +kernel
theorem dX1_takeMark_2 : decode cX1_takeMark 2 = .ok (.if_icmp .eq 5, 3) := by decide +kernel
theorem dX1_takeMark_5 : decode cX1_takeMark 5 = .ok (.iconst 0, 1) := by decide +kernel
theorem dX1_takeMark_6 : decode cX1_takeMark 6 = .ok (.ireturn, 1) := by decide +kernel
theorem dX1_takeMark_7 : decode cX1_takeMark 7 = .ok (.aload_n 0, 1) := by decide +kernel
theorem dX1_takeMark_8 : decode cX1_takeMark 8 = .ok (.iload_n 3, 1) := by decide +kernel
theorem dX1_takeMark_9 : decode cX1_takeMark 9 = .ok (.putfield 11, 3) := by decide +kernel
theorem dX1_takeMark_12 : decode cX1_takeMark 12 = .ok (.iconst 1, 1) := by decide +kernel
theorem dX1_takeMark_13 : decode cX1_takeMark 13 = .ok (.ireturn, 1) := by decide +kernel
set_option maxRecDepth 20000 in
theorem ggX1_takeAmount_X1_longer : GoodIn wsX1_takeAmount wsX1_longer := goodIn_r _ [7] (by decide +kernel) (by decide +kernel)
set_option maxRecDepth 20000 in
theorem gX1_takeAmount_X1_longer : GoodIn wsX1_takeAmount (va_wsS RX1 64 yX1_longer wsX1_longer) := goodIn_app (goodIn_of _ (by decide +kernel)) ggX1_takeAmount_X1_longer
theorem dX1_takeAmount_0 : decode cX1_takeAmount 0 = .ok (.iload_n 1, 1) := by decide +kernel
theorem dX1_takeAmount_1 : decode cX1_takeAmount 1 = .ok (.bipush 47, 2) := by decide +kernel
theorem dX1_takeAmount_3 : decode cX1_takeAmount 3 = .ok (.if_icmp .ne 27, 3) := by decide +kernel
theorem dX1_takeAmount_6 : decode cX1_takeAmount 6 = .ok (.aload_n 0, 1) := by decide +kernel
theorem dX1_takeAmount_7 : decode cX1_takeAmount 7 = .ok (.getfield 15, 3) := by decide +kernel
theorem dX1_takeAmount_10 : decode cX1_takeAmount 10 = .ok (.bipush 98, 2) := by decide +kernel
theorem dX1_takeAmount_12 : decode cX1_takeAmount 12 = .ok (.if_icmp .ne 18, 3) := by decide +kernel
theorem dX1_takeAmount_15 : decode cX1_takeAmount 15 = .ok (.aload_n 0, 1) := by decide +kernel
theorem dX1_takeAmount_16 : decode cX1_takeAmount 16 = .ok (.getfield 19, 3) := by decide +kernel
theorem dX1_takeAmount_19 : decode cX1_takeAmount 19 = .ok (.ifCond .le 11, 3) := by decide +kernel
theorem dX1_takeAmount_22 : decode cX1_takeAmount 22 = .ok (.aload_n 0, 1) := by decide +kernel
theorem dX1_takeAmount_23 : decode cX1_takeAmount 23 = .ok (.bipush 6, 2) := by decide +kernel
theorem dX1_takeAmount_25 : decode cX1_takeAmount 25 = .ok (.putfield 11, 3) := by decide +kernel
theorem dX1_takeAmount_28 : decode cX1_takeAmount 28 = .ok (.iconst 1, 1) := by decide +kernel
theorem dX1_takeAmount_29 : decode cX1_takeAmount 29 = .ok (.ireturn, 1) := by decide +kernel
theorem dX1_takeAmount_30 : decode cX1_takeAmount 30 = .ok (.aload_n 0, 1) := by decide +kernel
theorem dX1_takeAmount_31 : decode cX1_takeAmount 31 = .ok (.getfield 19, 3) := by decide +kernel
theorem dX1_takeAmount_34 : decode cX1_takeAmount 34 = .ok (.iload_n 1, 1) := by decide +kernel
theorem dX1_takeAmount_35 : decode cX1_takeAmount 35 = .ok (.sipush 9999, 3) := by decide +kernel
theorem dX1_takeAmount_38 : decode cX1_takeAmount 38 = .ok (.invokestatic 64, 3) := by decide +kernel
theorem dX1_takeAmount_41 : decode cX1_takeAmount 41 = .ok (.istore_n 2, 1) := by decide +kernel
theorem dX1_takeAmount_42 : decode cX1_takeAmount 42 = .ok (.iload_n 2, 1) := by decide +kernel
theorem dX1_takeAmount_43 : decode cX1_takeAmount 43 = .ok (.iconst (-1), 1) := by decide +kernel
theorem dX1_takeAmount_44 : decode cX1_takeAmount 44 = .ok (.if_icmp .ne 5, 3) := by decide +kernel
theorem dX1_takeAmount_47 : decode cX1_takeAmount 47 = .ok (.iconst 0, 1) := by decide +kernel
theorem dX1_takeAmount_48 : decode cX1_takeAmount 48 = .ok (.ireturn, 1) := by decide +kernel
theorem dX1_takeAmount_49 : decode cX1_takeAmount 49 = .ok (.aload_n 0, 1) := by decide +kernel
theorem dX1_takeAmount_50 : decode cX1_takeAmount 50 = .ok (.iload_n 2, 1) := by decide +kernel
theorem dX1_takeAmount_51 : decode cX1_takeAmount 51 = .ok (.putfield 19, 3) := by decide +kernel
theorem dX1_takeAmount_54 : decode cX1_takeAmount 54 = .ok (.iconst 1, 1) := by decide +kernel
theorem dX1_takeAmount_55 : decode cX1_takeAmount 55 = .ok (.ireturn, 1) := by decide +kernel
set_option maxRecDepth 20000 in
theorem ggX1_takeWeeks_X1_longer : GoodIn wsX1_takeWeeks wsX1_longer := goodIn_r _ [5] (by decide +kernel) (by decide +kernel)
set_option maxRecDepth 20000 in
theorem gX1_takeWeeks_X1_longer : GoodIn wsX1_takeWeeks (va_wsS RX1 64 yX1_longer wsX1_longer) := goodIn_app (goodIn_of _ (by decide +kernel)) ggX1_takeWeeks_X1_longer
theorem dX1_takeWeeks_0 : decode cX1_takeWeeks 0 = .ok (.aload_n 0, 1) := by decide +kernel
theorem dX1_takeWeeks_1 : decode cX1_takeWeeks 1 = .ok (.getfield 22, 3) := by decide +kernel
theorem dX1_takeWeeks_4 : decode cX1_takeWeeks 4 = .ok (.iload_n 1, 1) := by decide +kernel
theorem dX1_takeWeeks_5 : decode cX1_takeWeeks 5 = .ok (.bipush 52, 2) := by decide +kernel
theorem dX1_takeWeeks_7 : decode cX1_takeWeeks 7 = .ok (.invokestatic 64, 3) := by decide +kernel
theorem dX1_takeWeeks_10 : decode cX1_takeWeeks 10 = .ok (.istore_n 2, 1) := by decide +kernel
theorem dX1_takeWeeks_11 : decode cX1_takeWeeks 11 = .ok (.iload_n 2, 1) := by decide +kernel
theorem dX1_takeWeeks_12 : decode cX1_takeWeeks 12 = .ok (.iconst (-1), 1) := by decide +kernel
theorem dX1_takeWeeks_13 : decode cX1_takeWeeks 13 = .ok (.if_icmp .ne 5, 3) := by decide +kernel
theorem dX1_takeWeeks_16 : decode cX1_takeWeeks 16 = .ok (.iconst 0, 1) := by decide +kernel
theorem dX1_takeWeeks_17 : decode cX1_takeWeeks 17 = .ok (.ireturn, 1) := by decide +kernel
theorem dX1_takeWeeks_18 : decode cX1_takeWeeks 18 = .ok (.aload_n 0, 1) := by decide +kernel
theorem dX1_takeWeeks_19 : decode cX1_takeWeeks 19 = .ok (.iload_n 2, 1) := by decide +kernel
theorem dX1_takeWeeks_20 : decode cX1_takeWeeks 20 = .ok (.putfield 22, 3) := by decide +kernel
theorem dX1_takeWeeks_23 : decode cX1_takeWeeks 23 = .ok (.iconst 1, 1) := by decide +kernel
theorem dX1_takeWeeks_24 : decode cX1_takeWeeks 24 = .ok (.ireturn, 1) := by decide +kernel
theorem dX1_longer_0 : decode cX1_longer 0 = .ok (.iload_n 1, 1) := by decide +kernel
theorem dX1_longer_1 : decode cX1_longer 1 = .ok (.bipush 48, 2) := by decide +kernel
theorem dX1_longer_3 : decode cX1_longer 3 = .ok (.if_icmp .lt 9, 3) := by decide +kernel
theorem dX1_longer_6 : decode cX1_longer 6 = .ok (.iload_n 1, 1) := by decide +kernel
theorem dX1_longer_7 : decode cX1_longer 7 = .ok (.bipush 57, 2) := by decide +kernel
theorem dX1_longer_9 : decode cX1_longer 9 = .ok (.if_icmp .le 5, 3) := by decide +kernel
theorem dX1_longer_12 : decode cX1_longer 12 = .ok (.iconst (-1), 1) := by decide +kernel
theorem dX1_longer_13 : decode cX1_longer 13 = .ok (.ireturn, 1) := by decide +kernel
theorem dX1_longer_14 : decode cX1_longer 14 = .ok (.iload_n 0, 1) := by decide +kernel
theorem dX1_longer_15 : decode cX1_longer 15 = .ok (.bipush 10, 2) := by decide +kernel
theorem dX1_longer_17 : decode cX1_longer 17 = .ok (.imul, 1) := by decide +kernel
theorem dX1_longer_18 : decode cX1_longer 18 = .ok (.iload_n 1, 1) := by decide +kernel
theorem dX1_longer_19 : decode cX1_longer 19 = .ok (.bipush 48, 2) := by decide +kernel
theorem dX1_longer_21 : decode cX1_longer 21 = .ok (.isub, 1) := by decide +kernel
theorem dX1_longer_22 : decode cX1_longer 22 = .ok (.iadd, 1) := by decide +kernel
theorem dX1_longer_23 : decode cX1_longer 23 = .ok (.istore_n 3, 1) := by decide +kernel
theorem dX1_longer_24 : decode cX1_longer 24 = .ok (.iload_n 3, 1) := by decide +kernel
theorem dX1_longer_25 : decode cX1_longer 25 = .ok (.iconst 1, 1) := by decide +kernel
theorem dX1_longer_26 : decode cX1_longer 26 = .ok (.if_icmp .lt 8, 3) := by decide +kernel
theorem dX1_longer_29 : decode cX1_longer 29 = .ok (.iload_n 3, 1) := by decide +kernel
theorem dX1_longer_30 : decode cX1_longer 30 = .ok (.iload_n 2, 1) := by decide +kernel
theorem dX1_longer_31 : decode cX1_longer 31 = .ok (.if_icmp .le 7, 3) := by decide +kernel
theorem dX1_longer_34 : decode cX1_longer 34 = .ok (.iconst (-1), 1) := by decide +kernel
theorem dX1_longer_35 : decode cX1_longer 35 = .ok (.goto 4, 3) := by decide +kernel
theorem dX1_longer_38 : decode cX1_longer 38 = .ok (.iload_n 3, 1) := by decide +kernel
theorem dX1_longer_39 : decode cX1_longer 39 = .ok (.ireturn, 1) := by decide +kernel

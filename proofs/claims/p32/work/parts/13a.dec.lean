/-! decode rows and good words of the law's small methods -/
theorem dL_cell_0 : decode cL_cell 0 = .ok (.iload_n 1, 1) := by decide +kernel
theorem dL_cell_1 : decode cL_cell 1 = .ok (.aload_n 0, 1) := by decide +kernel
theorem dL_cell_2 : decode cL_cell 2 = .ok (.arraylength, 1) := by decide +kernel
theorem dL_cell_3 : decode cL_cell 3 = .ok (.if_icmp .ge 9, 3) := by decide +kernel
theorem dL_cell_6 : decode cL_cell 6 = .ok (.aload_n 0, 1) := by decide +kernel
theorem dL_cell_7 : decode cL_cell 7 = .ok (.iload_n 1, 1) := by decide +kernel
theorem dL_cell_8 : decode cL_cell 8 = .ok (.iaload, 1) := by decide +kernel
theorem dL_cell_9 : decode cL_cell 9 = .ok (.goto 11, 3) := by decide +kernel
theorem dL_cell_12 : decode cL_cell 12 = .ok (.ldc 7, 2) := by decide +kernel
theorem dL_cell_14 : decode cL_cell 14 = .ok (.iload_n 1, 1) := by decide +kernel
theorem dL_cell_15 : decode cL_cell 15 = .ok (.sipush 277, 3) := by decide +kernel
theorem dL_cell_18 : decode cL_cell 18 = .ok (.iadd, 1) := by decide +kernel
theorem dL_cell_19 : decode cL_cell 19 = .ok (.imul, 1) := by decide +kernel
theorem dL_cell_20 : decode cL_cell 20 = .ok (.ireturn, 1) := by decide +kernel
theorem dL_up_0 : decode cL_up 0 = .ok (.iload_n 0, 1) := by decide +kernel
theorem dL_up_1 : decode cL_up 1 = .ok (.ldc 8, 2) := by decide +kernel
theorem dL_up_3 : decode cL_up 3 = .ok (.iand, 1) := by decide +kernel
theorem dL_up_4 : decode cL_up 4 = .ok (.iload_n 1, 1) := by decide +kernel
theorem dL_up_5 : decode cL_up 5 = .ok (.irem, 1) := by decide +kernel
theorem dL_up_6 : decode cL_up 6 = .ok (.ireturn, 1) := by decide +kernel
set_option maxRecDepth 20000 in
theorem ggL_looks_X2_count : GoodIn wsL_looks wsX2_count := goodIn_ca (goodIn_r _ [7, 8, 9, 6, 10, 11, 12, 13, 14, 15, 16, 17, 18, 19, 20, 21, 22, 23, 24, 25, 26, 27, 28, 29, 30, 31, 32, 33, 34, 35, 36, 37, 38, 39, 40, 41, 42, 43, 44, 45, 104, 105, 106, 107, 108, 109, 110, 111, 112, 113, 114, 115, 116, 117, 118, 119, 120, 121, 122, 123, 124, 125, 126, 127, 128] (by decide +kernel) (by decide +kernel)) (goodIn_sub (fun _ h => List.mem_cons_of_mem _ (List.mem_append_left _ (List.mem_append_right _ h))) (by decide +kernel))
set_option maxRecDepth 20000 in
theorem gL_looks_X2_count : GoodIn wsL_looks (wsV RL 13 RX2 yX2_count wsX2_count) := goodIn_app (goodIn_of _ (by decide +kernel)) ggL_looks_X2_count
set_option maxRecDepth 20000 in
theorem ggL_looks_X2_memberOf : GoodIn wsL_looks wsX2_memberOf := goodIn_ca (goodIn_ca (goodIn_r _ [49, 17, 50, 51, 6, 52, 53, 54, 8, 9, 10, 11, 12, 55, 56, 57, 30, 58, 32, 59, 37, 60, 61, 62, 63, 64, 65, 66, 67, 68, 69, 70, 71, 72, 73, 74, 75, 76, 77, 78, 79, 80, 81, 82, 83, 84, 85, 86, 87, 42, 43, 44, 45, 104, 105, 106, 107, 108, 109, 110, 111, 112, 113, 114, 115, 116, 117, 118, 119, 120, 121, 122, 123, 124, 125, 126, 127, 128] (by decide +kernel) (by decide +kernel)) (goodIn_sub (fun _ h => List.mem_cons_of_mem _ (List.mem_append_right _ h)) (by decide +kernel))) (goodIn_sub (fun _ h => List.mem_cons_of_mem _ (List.mem_append_left _ (List.mem_append_right _ h))) (by decide +kernel))
set_option maxRecDepth 20000 in
theorem gL_looks_X2_memberOf : GoodIn wsL_looks (wsV RL 19 RX2 yX2_memberOf wsX2_memberOf) := goodIn_app (goodIn_of _ (by decide +kernel)) ggL_looks_X2_memberOf
set_option maxRecDepth 20000 in
theorem ggL_looks_X2_pledged : GoodIn wsL_looks wsX2_pledged := goodIn_ca (goodIn_r _ [91, 17, 92, 50, 51, 6, 52, 53, 54, 93, 94, 30, 95, 104, 105, 106, 107, 108, 109, 110, 111, 112, 113, 114, 115, 116, 117, 118, 119, 120, 121, 122, 123, 124, 125, 126, 127, 128] (by decide +kernel) (by decide +kernel)) (goodIn_sub (fun _ h => List.mem_cons_of_mem _ (List.mem_append_right _ h)) (by decide +kernel))
set_option maxRecDepth 20000 in
theorem gL_looks_X2_pledged : GoodIn wsL_looks (wsV RL 23 RX2 yX2_pledged wsX2_pledged) := goodIn_app (goodIn_of _ (by decide +kernel)) ggL_looks_X2_pledged
set_option maxRecDepth 20000 in
theorem ggL_looks_X2_setting : GoodIn wsL_looks wsX2_setting := goodIn_ca (goodIn_r _ [99, 17, 100, 101, 102, 6, 103, 53, 54, 104, 105, 106, 107, 108, 109, 110, 111, 112, 113, 114, 115, 116, 117, 118, 119, 120, 121, 122, 123, 124, 125, 126, 127, 128] (by decide +kernel) (by decide +kernel)) (goodIn_sub (fun _ h => List.mem_cons_of_mem _ (List.mem_append_right _ h)) (by decide +kernel))
set_option maxRecDepth 20000 in
theorem gL_looks_X2_setting : GoodIn wsL_looks (wsV RL 26 RX2 yX2_setting wsX2_setting) := goodIn_app (goodIn_of _ (by decide +kernel)) ggL_looks_X2_setting
theorem dL_looks_0 : decode cL_looks 0 = .ok (.ldc2_w 9, 3) := by decide +kernel
theorem dL_looks_3 : decode cL_looks 3 = .ok (.lstore_n 1, 1) := by decide +kernel
theorem dL_looks_4 : decode cL_looks 4 = .ok (.iconst 0, 1) := by decide +kernel
theorem dL_looks_5 : decode cL_looks 5 = .ok (.istore_n 3, 1) := by decide +kernel
theorem dL_looks_6 : decode cL_looks 6 = .ok (.iload_n 3, 1) := by decide +kernel
theorem dL_looks_7 : decode cL_looks 7 = .ok (.bipush 11, 2) := by decide +kernel
theorem dL_looks_9 : decode cL_looks 9 = .ok (.if_icmp .ge 22, 3) := by decide +kernel
theorem dL_looks_12 : decode cL_looks 12 = .ok (.ldc2_w 11, 3) := by decide +kernel
theorem dL_looks_15 : decode cL_looks 15 = .ok (.lload_n 1, 1) := by decide +kernel
theorem dL_looks_16 : decode cL_looks 16 = .ok (.lmul, 1) := by decide +kernel
theorem dL_looks_17 : decode cL_looks 17 = .ok (.aload_n 0, 1) := by decide +kernel
theorem dL_looks_18 : decode cL_looks 18 = .ok (.iload_n 3, 1) := by decide +kernel
theorem dL_looks_19 : decode cL_looks 19 = .ok (.invokevirtual 13, 3) := by decide +kernel
theorem dL_looks_22 : decode cL_looks 22 = .ok (.i2l, 1) := by decide +kernel
theorem dL_looks_23 : decode cL_looks 23 = .ok (.ladd, 1) := by decide +kernel
theorem dL_looks_24 : decode cL_looks 24 = .ok (.lstore_n 1, 1) := by decide +kernel
theorem dL_looks_25 : decode cL_looks 25 = .ok (.iinc 3 1, 3) := by decide +kernel
theorem dL_looks_28 : decode cL_looks 28 = .ok (.goto (-22), 3) := by decide +kernel
theorem dL_looks_31 : decode cL_looks 31 = .ok (.iconst 0, 1) := by decide +kernel
theorem dL_looks_32 : decode cL_looks 32 = .ok (.istore_n 3, 1) := by decide +kernel
theorem dL_looks_33 : decode cL_looks 33 = .ok (.iload_n 3, 1) := by decide +kernel
theorem dL_looks_34 : decode cL_looks 34 = .ok (.bipush 60, 2) := by decide +kernel
theorem dL_looks_36 : decode cL_looks 36 = .ok (.if_icmp .ge 29, 3) := by decide +kernel
theorem dL_looks_39 : decode cL_looks 39 = .ok (.ldc2_w 11, 3) := by decide +kernel
theorem dL_looks_42 : decode cL_looks 42 = .ok (.lload_n 1, 1) := by decide +kernel
theorem dL_looks_43 : decode cL_looks 43 = .ok (.lmul, 1) := by decide +kernel
theorem dL_looks_44 : decode cL_looks 44 = .ok (.aload_n 0, 1) := by decide +kernel
theorem dL_looks_45 : decode cL_looks 45 = .ok (.iload_n 3, 1) := by decide +kernel
theorem dL_looks_46 : decode cL_looks 46 = .ok (.bipush 10, 2) := by decide +kernel
theorem dL_looks_48 : decode cL_looks 48 = .ok (.idiv, 1) := by decide +kernel
theorem dL_looks_49 : decode cL_looks 49 = .ok (.iload_n 3, 1) := by decide +kernel
theorem dL_looks_50 : decode cL_looks 50 = .ok (.bipush 10, 2) := by decide +kernel
theorem dL_looks_52 : decode cL_looks 52 = .ok (.irem, 1) := by decide +kernel
theorem dL_looks_53 : decode cL_looks 53 = .ok (.invokevirtual 19, 3) := by decide +kernel
theorem dL_looks_56 : decode cL_looks 56 = .ok (.i2l, 1) := by decide +kernel
theorem dL_looks_57 : decode cL_looks 57 = .ok (.ladd, 1) := by decide +kernel
theorem dL_looks_58 : decode cL_looks 58 = .ok (.lstore_n 1, 1) := by decide +kernel
theorem dL_looks_59 : decode cL_looks 59 = .ok (.iinc 3 1, 3) := by decide +kernel
theorem dL_looks_62 : decode cL_looks 62 = .ok (.goto (-29), 3) := by decide +kernel
theorem dL_looks_65 : decode cL_looks 65 = .ok (.iconst 0, 1) := by decide +kernel
theorem dL_looks_66 : decode cL_looks 66 = .ok (.istore_n 3, 1) := by decide +kernel
theorem dL_looks_67 : decode cL_looks 67 = .ok (.iload_n 3, 1) := by decide +kernel
theorem dL_looks_68 : decode cL_looks 68 = .ok (.bipush 36, 2) := by decide +kernel
theorem dL_looks_70 : decode cL_looks 70 = .ok (.if_icmp .ge 29, 3) := by decide +kernel
theorem dL_looks_73 : decode cL_looks 73 = .ok (.ldc2_w 11, 3) := by decide +kernel
theorem dL_looks_76 : decode cL_looks 76 = .ok (.lload_n 1, 1) := by decide +kernel
theorem dL_looks_77 : decode cL_looks 77 = .ok (.lmul, 1) := by decide +kernel
theorem dL_looks_78 : decode cL_looks 78 = .ok (.aload_n 0, 1) := by decide +kernel
theorem dL_looks_79 : decode cL_looks 79 = .ok (.iload_n 3, 1) := by decide +kernel
theorem dL_looks_80 : decode cL_looks 80 = .ok (.bipush 6, 2) := by decide +kernel
theorem dL_looks_82 : decode cL_looks 82 = .ok (.idiv, 1) := by decide +kernel
theorem dL_looks_83 : decode cL_looks 83 = .ok (.iload_n 3, 1) := by decide +kernel
theorem dL_looks_84 : decode cL_looks 84 = .ok (.bipush 6, 2) := by decide +kernel
theorem dL_looks_86 : decode cL_looks 86 = .ok (.irem, 1) := by decide +kernel
theorem dL_looks_87 : decode cL_looks 87 = .ok (.invokevirtual 23, 3) := by decide +kernel
theorem dL_looks_90 : decode cL_looks 90 = .ok (.i2l, 1) := by decide +kernel
theorem dL_looks_91 : decode cL_looks 91 = .ok (.ladd, 1) := by decide +kernel
theorem dL_looks_92 : decode cL_looks 92 = .ok (.lstore_n 1, 1) := by decide +kernel
theorem dL_looks_93 : decode cL_looks 93 = .ok (.iinc 3 1, 3) := by decide +kernel
theorem dL_looks_96 : decode cL_looks 96 = .ok (.goto (-29), 3) := by decide +kernel
theorem dL_looks_99 : decode cL_looks 99 = .ok (.ldc2_w 11, 3) := by decide +kernel
theorem dL_looks_102 : decode cL_looks 102 = .ok (.ldc2_w 11, 3) := by decide +kernel
theorem dL_looks_105 : decode cL_looks 105 = .ok (.lload_n 1, 1) := by decide +kernel
theorem dL_looks_106 : decode cL_looks 106 = .ok (.lmul, 1) := by decide +kernel
theorem dL_looks_107 : decode cL_looks 107 = .ok (.aload_n 0, 1) := by decide +kernel
theorem dL_looks_108 : decode cL_looks 108 = .ok (.iconst 0, 1) := by decide +kernel
theorem dL_looks_109 : decode cL_looks 109 = .ok (.invokevirtual 26, 3) := by decide +kernel
theorem dL_looks_112 : decode cL_looks 112 = .ok (.i2l, 1) := by decide +kernel
theorem dL_looks_113 : decode cL_looks 113 = .ok (.ladd, 1) := by decide +kernel
theorem dL_looks_114 : decode cL_looks 114 = .ok (.lmul, 1) := by decide +kernel
theorem dL_looks_115 : decode cL_looks 115 = .ok (.aload_n 0, 1) := by decide +kernel
theorem dL_looks_116 : decode cL_looks 116 = .ok (.iconst 1, 1) := by decide +kernel
theorem dL_looks_117 : decode cL_looks 117 = .ok (.invokevirtual 26, 3) := by decide +kernel
theorem dL_looks_120 : decode cL_looks 120 = .ok (.i2l, 1) := by decide +kernel
theorem dL_looks_121 : decode cL_looks 121 = .ok (.ladd, 1) := by decide +kernel
theorem dL_looks_122 : decode cL_looks 122 = .ok (.lreturn, 1) := by decide +kernel
set_option maxRecDepth 20000 in
theorem ggL_acts_L_up : GoodIn wsL_acts wsL_up := goodIn_r _ [6, 7] (by decide +kernel) (by decide +kernel)
set_option maxRecDepth 20000 in
theorem gL_acts_L_up : GoodIn wsL_acts (va_wsS RL 29 yL_up wsL_up) := goodIn_app (goodIn_of _ (by decide +kernel)) ggL_acts_L_up
set_option maxRecDepth 20000 in
theorem ggL_acts_X2_count : GoodIn wsL_acts wsX2_count := goodIn_ca (goodIn_r _ [12, 13, 14, 11, 15, 16, 17, 18, 19, 20, 21, 22, 23, 24, 25, 26, 27, 28, 29, 30, 31, 32, 33, 34, 35, 36, 37, 38, 39, 40, 41, 42, 43, 44, 45, 46, 47, 48, 49, 50, 303, 304, 305, 306, 307, 308, 309, 310, 311, 312, 313, 314, 315, 316, 317, 318, 319, 320, 321, 322, 323, 324, 325, 326, 327] (by decide +kernel) (by decide +kernel)) (goodIn_sub (fun _ h => List.mem_cons_of_mem _ (List.mem_append_left _ (List.mem_append_left _ (List.mem_append_right _ h)))) (by decide +kernel))
set_option maxRecDepth 20000 in
theorem gL_acts_X2_count : GoodIn wsL_acts (wsV RL 13 RX2 yX2_count wsX2_count) := goodIn_app (goodIn_of _ (by decide +kernel)) ggL_acts_X2_count
set_option maxRecDepth 20000 in
theorem ggL_acts_X2_memberOf : GoodIn wsL_acts wsX2_memberOf := goodIn_ca (goodIn_ca (goodIn_r _ [54, 22, 55, 56, 11, 57, 58, 59, 13, 14, 15, 16, 17, 60, 61, 62, 35, 63, 37, 64, 42, 65, 66, 67, 68, 69, 70, 71, 72, 73, 74, 75, 76, 77, 78, 79, 80, 81, 82, 83, 84, 85, 86, 87, 88, 89, 90, 91, 92, 47, 48, 49, 50, 303, 304, 305, 306, 307, 308, 309, 310, 311, 312, 313, 314, 315, 316, 317, 318, 319, 320, 321, 322, 323, 324, 325, 326, 327] (by decide +kernel) (by decide +kernel)) (goodIn_sub (fun _ h => List.mem_cons_of_mem _ (List.mem_append_left _ (List.mem_append_right _ h))) (by decide +kernel))) (goodIn_sub (fun _ h => List.mem_cons_of_mem _ (List.mem_append_left _ (List.mem_append_left _ (List.mem_append_right _ h)))) (by decide +kernel))
set_option maxRecDepth 20000 in
theorem gL_acts_X2_memberOf : GoodIn wsL_acts (wsV RL 19 RX2 yX2_memberOf wsX2_memberOf) := goodIn_app (goodIn_of _ (by decide +kernel)) ggL_acts_X2_memberOf
set_option maxRecDepth 20000 in
theorem ggL_acts_X2_payIn : GoodIn wsL_acts wsX2_payIn := goodIn_ca (goodIn_ca (goodIn_r _ [96, 22, 55, 56, 11, 57, 58, 59, 97, 98, 99, 13, 14, 15, 16, 17, 100, 101, 102, 103, 31, 104, 105, 106, 107, 108, 109, 110, 111, 35, 112, 37, 64, 72, 42, 65, 66, 67, 113, 114, 115, 116, 117, 118, 119, 120, 121, 122, 123, 124, 125, 126, 91, 127, 128, 129, 130, 131, 132, 133, 134, 135, 136, 303, 304, 305, 306, 307, 308, 309, 310, 311, 312, 313, 314, 315, 316, 317, 318, 319, 320, 321, 322, 323, 324, 325, 326, 327] (by decide +kernel) (by decide +kernel)) (goodIn_sub (fun _ h => List.mem_cons_of_mem _ (List.mem_append_left _ (List.mem_append_right _ h))) (by decide +kernel))) (goodIn_sub (fun _ h => List.mem_cons_of_mem _ (List.mem_append_left _ (List.mem_append_left _ (List.mem_append_right _ h)))) (by decide +kernel))
set_option maxRecDepth 20000 in
theorem gL_acts_X2_payIn : GoodIn wsL_acts (wsV RL 34 RX2 yX2_payIn wsX2_payIn) := goodIn_app (goodIn_of _ (by decide +kernel)) ggL_acts_X2_payIn
set_option maxRecDepth 20000 in
theorem ggL_acts_X2_payOut : GoodIn wsL_acts wsX2_payOut := goodIn_ca (goodIn_ca (goodIn_r _ [140, 22, 55, 56, 11, 57, 58, 59, 97, 98, 99, 13, 14, 15, 16, 17, 100, 101, 102, 103, 31, 104, 105, 106, 107, 108, 109, 110, 111, 35, 112, 37, 64, 72, 42, 65, 66, 67, 113, 114, 115, 116, 117, 118, 119, 120, 121, 122, 123, 124, 125, 126, 91, 127, 128, 129, 130, 131, 141, 142, 143, 144, 85, 86, 87, 88, 89, 90, 92, 81, 82, 83, 84, 68, 69, 70, 71, 73, 74, 75, 76, 303, 304, 305, 306, 307, 308, 309, 310, 311, 312, 313, 314, 315, 316, 317, 318, 319, 320, 321, 322, 323, 324, 325, 326, 327] (by decide +kernel) (by decide +kernel)) (goodIn_sub (fun _ h => List.mem_cons_of_mem _ (List.mem_append_left _ (List.mem_append_right _ h))) (by decide +kernel))) (goodIn_sub (fun _ h => List.mem_cons_of_mem _ (List.mem_append_left _ (List.mem_append_left _ (List.mem_append_right _ h)))) (by decide +kernel))
set_option maxRecDepth 20000 in
theorem gL_acts_X2_payOut : GoodIn wsL_acts (wsV RL 38 RX2 yX2_payOut wsX2_payOut) := goodIn_app (goodIn_of _ (by decide +kernel)) ggL_acts_X2_payOut
set_option maxRecDepth 20000 in
theorem ggL_acts_X2_pledged : GoodIn wsL_acts wsX2_pledged := goodIn_ca (goodIn_r _ [148, 22, 149, 55, 56, 11, 57, 58, 59, 150, 151, 35, 152, 303, 304, 305, 306, 307, 308, 309, 310, 311, 312, 313, 314, 315, 316, 317, 318, 319, 320, 321, 322, 323, 324, 325, 326, 327] (by decide +kernel) (by decide +kernel)) (goodIn_sub (fun _ h => List.mem_cons_of_mem _ (List.mem_append_left _ (List.mem_append_right _ h))) (by decide +kernel))
set_option maxRecDepth 20000 in
theorem gL_acts_X2_pledged : GoodIn wsL_acts (wsV RL 23 RX2 yX2_pledged wsX2_pledged) := goodIn_app (goodIn_of _ (by decide +kernel)) ggL_acts_X2_pledged
set_option maxRecDepth 20000 in
theorem ggL_acts_X2_pledge : GoodIn wsL_acts wsX2_pledge := goodIn_ca (goodIn_ca (goodIn_r _ [156, 22, 157, 158, 11, 159, 16, 17, 55, 56, 57, 58, 59, 97, 98, 99, 13, 14, 15, 100, 101, 102, 103, 31, 104, 105, 106, 107, 108, 109, 110, 111, 35, 112, 37, 64, 72, 42, 65, 66, 67, 113, 114, 115, 116, 117, 118, 119, 120, 121, 122, 123, 124, 125, 126, 91, 127, 128, 129, 130, 131, 160, 161, 162, 163, 85, 86, 87, 88, 89, 90, 92, 81, 82, 83, 84, 68, 69, 70, 71, 73, 74, 75, 76, 164, 151, 152, 303, 304, 305, 306, 307, 308, 309, 310, 311, 312, 313, 314, 315, 316, 317, 318, 319, 320, 321, 322, 323, 324, 325, 326, 327] (by decide +kernel) (by decide +kernel)) (goodIn_sub (fun _ h => List.mem_cons_of_mem _ (List.mem_append_left _ (List.mem_append_left _ (List.mem_append_right _ h)))) (by decide +kernel))) (goodIn_sub (fun _ h => List.mem_cons_of_mem _ (List.mem_append_left _ (List.mem_append_right _ h))) (by decide +kernel))
set_option maxRecDepth 20000 in
theorem gL_acts_X2_pledge : GoodIn wsL_acts (wsV RL 41 RX2 yX2_pledge wsX2_pledge) := goodIn_app (goodIn_of _ (by decide +kernel)) ggL_acts_X2_pledge
set_option maxRecDepth 20000 in
theorem ggL_acts_X2_unpledge : GoodIn wsL_acts wsX2_unpledge := goodIn_ca (goodIn_ca (goodIn_r _ [168, 22, 157, 158, 11, 159, 16, 17, 55, 56, 57, 58, 59, 97, 98, 99, 13, 14, 15, 100, 101, 102, 103, 31, 104, 105, 106, 107, 108, 109, 110, 111, 35, 112, 37, 64, 72, 42, 65, 66, 67, 113, 114, 115, 116, 117, 118, 119, 120, 121, 122, 123, 124, 125, 126, 91, 127, 128, 129, 130, 131, 169, 170, 171, 172, 164, 151, 152, 77, 78, 79, 80, 81, 82, 83, 84, 68, 69, 70, 71, 73, 74, 75, 76, 303, 304, 305, 306, 307, 308, 309, 310, 311, 312, 313, 314, 315, 316, 317, 318, 319, 320, 321, 322, 323, 324, 325, 326, 327] (by decide +kernel) (by decide +kernel)) (goodIn_sub (fun _ h => List.mem_cons_of_mem _ (List.mem_append_left _ (List.mem_append_left _ (List.mem_append_right _ h)))) (by decide +kernel))) (goodIn_sub (fun _ h => List.mem_cons_of_mem _ (List.mem_append_left _ (List.mem_append_right _ h))) (by decide +kernel))
set_option maxRecDepth 20000 in
theorem gL_acts_X2_unpledge : GoodIn wsL_acts (wsV RL 45 RX2 yX2_unpledge wsX2_unpledge) := goodIn_app (goodIn_of _ (by decide +kernel)) ggL_acts_X2_unpledge
set_option maxRecDepth 20000 in
theorem ggL_acts_X2_whyNot : GoodIn wsL_acts wsX2_whyNot := goodIn_ca (goodIn_ca (goodIn_r _ [176, 22, 55, 56, 11, 57, 58, 59, 97, 98, 99, 13, 14, 15, 16, 17, 177, 178, 179, 35, 180, 47, 48, 49, 50, 42, 181, 182, 183, 184, 37, 77, 78, 79, 80, 81, 82, 83, 84, 68, 69, 70, 71, 72, 73, 74, 75, 76, 185, 186, 187, 188, 114, 189, 190, 191, 192, 113, 303, 304, 305, 306, 307, 308, 309, 310, 311, 312, 313, 314, 315, 316, 317, 318, 319, 320, 321, 322, 323, 324, 325, 326, 327] (by decide +kernel) (by decide +kernel)) (goodIn_sub (fun _ h => List.mem_cons_of_mem _ (List.mem_append_left _ (List.mem_append_right _ h))) (by decide +kernel))) (goodIn_sub (fun _ h => List.mem_cons_of_mem _ (List.mem_append_left _ (List.mem_append_left _ (List.mem_append_right _ h)))) (by decide +kernel))
set_option maxRecDepth 20000 in
theorem gL_acts_X2_whyNot : GoodIn wsL_acts (wsV RL 48 RX2 yX2_whyNot wsX2_whyNot) := goodIn_app (goodIn_of _ (by decide +kernel)) ggL_acts_X2_whyNot
set_option maxRecDepth 20000 in
theorem ggL_acts_X2_setting : GoodIn wsL_acts wsX2_setting := goodIn_ca (goodIn_r _ [196, 22, 197, 198, 199, 11, 200, 58, 59, 303, 304, 305, 306, 307, 308, 309, 310, 311, 312, 313, 314, 315, 316, 317, 318, 319, 320, 321, 322, 323, 324, 325, 326, 327] (by decide +kernel) (by decide +kernel)) (goodIn_sub (fun _ h => List.mem_cons_of_mem _ (List.mem_append_left _ (List.mem_append_right _ h))) (by decide +kernel))
set_option maxRecDepth 20000 in
theorem gL_acts_X2_setting : GoodIn wsL_acts (wsV RL 26 RX2 yX2_setting wsX2_setting) := goodIn_app (goodIn_of _ (by decide +kernel)) ggL_acts_X2_setting
set_option maxRecDepth 20000 in
theorem ggL_acts_X2_borrow : GoodIn wsL_acts wsX2_borrow := goodIn_ca (goodIn_ca (goodIn_r _ [204, 22, 55, 56, 11, 57, 58, 59, 97, 98, 99, 13, 14, 15, 16, 17, 100, 101, 102, 103, 31, 104, 105, 106, 107, 108, 109, 110, 111, 35, 112, 37, 64, 72, 42, 65, 66, 67, 113, 114, 115, 116, 117, 118, 119, 120, 121, 122, 123, 124, 125, 126, 91, 127, 128, 129, 130, 131, 205, 206, 207, 208, 209, 178, 179, 180, 47, 48, 49, 50, 181, 182, 183, 184, 77, 78, 79, 80, 81, 82, 83, 84, 68, 69, 70, 71, 73, 74, 75, 76, 185, 186, 187, 188, 189, 190, 191, 192, 303, 304, 305, 306, 307, 308, 309, 310, 311, 312, 313, 314, 315, 316, 317, 318, 319, 320, 321, 322, 323, 324, 325, 326, 327] (by decide +kernel) (by decide +kernel)) (goodIn_sub (fun _ h => List.mem_cons_of_mem _ (List.mem_append_left _ (List.mem_append_right _ h))) (by decide +kernel))) (goodIn_sub (fun _ h => List.mem_cons_of_mem _ (List.mem_append_left _ (List.mem_append_left _ (List.mem_append_right _ h)))) (by decide +kernel))
set_option maxRecDepth 20000 in
theorem gL_acts_X2_borrow : GoodIn wsL_acts (wsV RL 51 RX2 yX2_borrow wsX2_borrow) := goodIn_app (goodIn_of _ (by decide +kernel)) ggL_acts_X2_borrow
set_option maxRecDepth 20000 in
theorem ggL_acts_X2_weeksLeft : GoodIn wsL_acts wsX2_weeksLeft := goodIn_ca (goodIn_ca (goodIn_r _ [213, 22, 55, 56, 11, 57, 58, 59, 13, 14, 15, 16, 17, 214, 215, 216, 35, 217, 42, 65, 125, 126, 91, 127, 218, 219, 220, 221, 47, 48, 49, 50, 303, 304, 305, 306, 307, 308, 309, 310, 311, 312, 313, 314, 315, 316, 317, 318, 319, 320, 321, 322, 323, 324, 325, 326, 327] (by decide +kernel) (by decide +kernel)) (goodIn_sub (fun _ h => List.mem_cons_of_mem _ (List.mem_append_left _ (List.mem_append_right _ h))) (by decide +kernel))) (goodIn_sub (fun _ h => List.mem_cons_of_mem _ (List.mem_append_left _ (List.mem_append_left _ (List.mem_append_right _ h)))) (by decide +kernel))
set_option maxRecDepth 20000 in
theorem gL_acts_X2_weeksLeft : GoodIn wsL_acts (wsV RL 54 RX2 yX2_weeksLeft wsX2_weeksLeft) := goodIn_app (goodIn_of _ (by decide +kernel)) ggL_acts_X2_weeksLeft
set_option maxRecDepth 20000 in
theorem ggL_acts_X2_repay : GoodIn wsL_acts wsX2_repay := goodIn_ca (goodIn_ca (goodIn_r _ [225, 22, 55, 56, 11, 57, 58, 59, 97, 98, 99, 13, 14, 15, 16, 17, 100, 101, 102, 103, 31, 104, 105, 106, 107, 108, 109, 110, 111, 35, 112, 37, 64, 72, 42, 65, 66, 67, 113, 114, 115, 116, 117, 118, 119, 120, 121, 122, 123, 124, 125, 126, 91, 127, 128, 129, 130, 131, 226, 227, 228, 229, 303, 304, 305, 306, 307, 308, 309, 310, 311, 312, 313, 314, 315, 316, 317, 318, 319, 320, 321, 322, 323, 324, 325, 326, 327] (by decide +kernel) (by decide +kernel)) (goodIn_sub (fun _ h => List.mem_cons_of_mem _ (List.mem_append_left _ (List.mem_append_right _ h))) (by decide +kernel))) (goodIn_sub (fun _ h => List.mem_cons_of_mem _ (List.mem_append_left _ (List.mem_append_left _ (List.mem_append_right _ h)))) (by decide +kernel))
set_option maxRecDepth 20000 in
theorem gL_acts_X2_repay : GoodIn wsL_acts (wsV RL 57 RX2 yX2_repay wsX2_repay) := goodIn_app (goodIn_of _ (by decide +kernel)) ggL_acts_X2_repay
set_option maxRecDepth 20000 in
theorem ggL_acts_L_ends : GoodIn wsL_acts wsL_ends := goodIn_ca (goodIn_ca (goodIn_ca (goodIn_r _ [232, 8, 9, 10, 11, 12, 13, 14, 15, 16, 17, 18, 19, 20, 21, 22, 23, 24, 25, 26, 27, 28, 29, 30, 31, 32, 33, 34, 35, 36, 37, 38, 39, 40, 41, 42, 43, 44, 45, 46, 47, 48, 49, 50, 233, 234, 235, 236, 237, 238, 239, 240, 241, 242, 118, 100, 101, 102, 103, 104, 105, 106, 107, 108, 109, 110, 111, 112, 64, 72, 65, 66, 67, 113, 114, 115, 116, 117, 119, 120, 121, 122, 123, 124, 125, 126, 91, 127, 128, 129, 130, 131, 243, 244, 245, 246, 247, 248, 249, 250, 251, 252, 253, 254, 81, 82, 83, 84, 68, 69, 70, 71, 164, 151, 152, 51, 52, 53, 54, 55, 56, 57, 58, 59, 60, 61, 62, 63, 73, 74, 75, 76, 77, 78, 79, 80, 85, 86, 87, 88, 89, 90, 92, 193, 194, 195, 196, 197, 198, 199, 200, 303, 304, 305, 306, 307, 308, 309, 310, 311, 312, 313, 314, 315, 316, 317, 318, 319, 320, 321, 322, 323, 324, 325, 326, 327] (by decide +kernel) (by decide +kernel)) (goodIn_sub (fun _ h => List.mem_cons_of_mem _ (List.mem_append_left _ (List.mem_append_left _ (List.mem_append_right _ h)))) (by decide +kernel))) (goodIn_sub (fun _ h => List.mem_cons_of_mem _ (List.mem_append_right _ h)) (by decide +kernel))) (goodIn_sub (fun _ h => List.mem_cons_of_mem _ (List.mem_append_left _ (List.mem_append_right _ h))) (by decide +kernel))
set_option maxRecDepth 20000 in
theorem gL_acts_L_ends : GoodIn wsL_acts (va_wsS RL 60 yL_ends wsL_ends) := goodIn_app (goodIn_of _ (by decide +kernel)) ggL_acts_L_ends
set_option maxRecDepth 20000 in
theorem ggL_acts_X2_pass : GoodIn wsL_acts wsX2_pass := goodIn_ca (goodIn_ca (goodIn_r _ [258, 237, 238, 22, 13, 14, 11, 15, 16, 17, 259, 260, 261, 35, 262, 119, 64, 37, 263, 100, 101, 102, 103, 31, 104, 105, 106, 107, 108, 109, 110, 111, 112, 72, 42, 65, 66, 67, 113, 114, 115, 116, 117, 118, 120, 121, 122, 123, 124, 125, 126, 91, 127, 128, 129, 130, 131, 264, 265, 266, 267, 303, 304, 305, 306, 307, 308, 309, 310, 311, 312, 313, 314, 315, 316, 317, 318, 319, 320, 321, 322, 323, 324, 325, 326, 327] (by decide +kernel) (by decide +kernel)) (goodIn_sub (fun _ h => List.mem_cons_of_mem _ (List.mem_append_right _ h)) (by decide +kernel))) (goodIn_sub (fun _ h => List.mem_cons_of_mem _ (List.mem_append_left _ (List.mem_append_left _ (List.mem_append_right _ h)))) (by decide +kernel))
set_option maxRecDepth 20000 in
theorem gL_acts_X2_pass : GoodIn wsL_acts (wsV RL 65 RX2 yX2_pass wsX2_pass) := goodIn_app (goodIn_of _ (by decide +kernel)) ggL_acts_X2_pass
set_option maxRecDepth 20000 in
theorem ggL_acts_X2_set : GoodIn wsL_acts wsX2_set := goodIn_ca (goodIn_ca (goodIn_r _ [271, 22, 197, 198, 199, 11, 200, 58, 59, 13, 14, 15, 16, 17, 100, 101, 102, 103, 31, 104, 105, 106, 107, 108, 109, 110, 111, 35, 112, 37, 64, 72, 42, 65, 66, 67, 113, 114, 115, 116, 117, 118, 119, 120, 121, 122, 123, 124, 125, 126, 91, 127, 128, 129, 130, 131, 303, 304, 305, 306, 307, 308, 309, 310, 311, 312, 313, 314, 315, 316, 317, 318, 319, 320, 321, 322, 323, 324, 325, 326, 327] (by decide +kernel) (by decide +kernel)) (goodIn_sub (fun _ h => List.mem_cons_of_mem _ (List.mem_append_left _ (List.mem_append_right _ h))) (by decide +kernel))) (goodIn_sub (fun _ h => List.mem_cons_of_mem _ (List.mem_append_left _ (List.mem_append_left _ (List.mem_append_right _ h)))) (by decide +kernel))
set_option maxRecDepth 20000 in
theorem gL_acts_X2_set : GoodIn wsL_acts (wsV RL 68 RX2 yX2_set wsX2_set) := goodIn_app (goodIn_of _ (by decide +kernel)) ggL_acts_X2_set
set_option maxRecDepth 20000 in
theorem ggL_acts_L_divides : GoodIn wsL_acts wsL_divides := goodIn_ca (goodIn_ca (goodIn_r _ [274, 8, 9, 10, 11, 12, 13, 14, 15, 16, 17, 18, 19, 20, 21, 22, 23, 24, 25, 26, 27, 28, 29, 30, 31, 32, 33, 34, 35, 36, 37, 38, 39, 40, 41, 42, 43, 44, 45, 46, 47, 48, 49, 50, 275, 276, 277, 278, 55, 56, 57, 58, 59, 279, 280, 281, 282, 64, 283, 284, 285, 286, 115, 51, 52, 53, 54, 60, 61, 62, 63, 65, 66, 67, 68, 69, 70, 71, 72, 73, 74, 75, 76, 77, 78, 79, 80, 81, 82, 83, 84, 85, 86, 87, 88, 89, 90, 91, 92, 287, 288, 289, 290, 100, 101, 102, 103, 104, 105, 106, 107, 108, 109, 110, 111, 112, 113, 114, 116, 117, 118, 119, 120, 121, 122, 123, 124, 125, 126, 127, 128, 129, 130, 131, 291, 292, 293, 294, 295, 296, 303, 304, 305, 306, 307, 308, 309, 310, 311, 312, 313, 314, 315, 316, 317, 318, 319, 320, 321, 322, 323, 324, 325, 326, 327] (by decide +kernel) (by decide +kernel)) (goodIn_sub (fun _ h => List.mem_cons_of_mem _ (List.mem_append_left _ (List.mem_append_left _ (List.mem_append_right _ h)))) (by decide +kernel))) (goodIn_sub (fun _ h => List.mem_cons_of_mem _ (List.mem_append_left _ (List.mem_append_right _ h))) (by decide +kernel))
set_option maxRecDepth 20000 in
theorem gL_acts_L_divides : GoodIn wsL_acts (va_wsS RL 71 yL_divides wsL_divides) := goodIn_app (goodIn_of _ (by decide +kernel)) ggL_acts_L_divides
set_option maxRecDepth 20000 in
theorem ggL_acts_X2_goBack : GoodIn wsL_acts wsX2_goBack := goodIn_ca (goodIn_ca (goodIn_r _ [300, 237, 238, 301, 22, 302, 13, 14, 11, 15, 16, 17, 100, 101, 102, 103, 31, 104, 105, 106, 107, 108, 109, 110, 111, 35, 112, 37, 64, 72, 42, 65, 66, 67, 113, 114, 115, 116, 117, 118, 119, 120, 121, 122, 123, 124, 125, 126, 91, 127, 128, 129, 130, 131, 43, 44, 45, 46, 47, 48, 49, 50, 303, 304, 305, 306, 307, 308, 309, 310, 311, 312, 313, 314, 315, 316, 317, 318, 319, 320, 321, 322, 323, 324, 325, 326, 327] (by decide +kernel) (by decide +kernel)) (goodIn_sub (fun _ h => List.mem_cons_of_mem _ (List.mem_append_right _ h)) (by decide +kernel))) (goodIn_sub (fun _ h => List.mem_cons_of_mem _ (List.mem_append_left _ (List.mem_append_left _ (List.mem_append_right _ h)))) (by decide +kernel))
set_option maxRecDepth 20000 in
theorem gL_acts_X2_goBack : GoodIn wsL_acts (wsV RL 74 RX2 yX2_goBack wsX2_goBack) := goodIn_app (goodIn_of _ (by decide +kernel)) ggL_acts_X2_goBack
theorem dL_acts_0 : decode cL_acts 0 = .ok (.iload_n 2, 1) := by decide +kernel
theorem dL_acts_1 : decode cL_acts 1 = .ok (.bipush 6, 2) := by decide +kernel
theorem dL_acts_3 : decode cL_acts 3 = .ok (.invokestatic 29, 3) := by decide +kernel
theorem dL_acts_6 : decode cL_acts 6 = .ok (.istore_n 3, 1) := by decide +kernel
theorem dL_acts_7 : decode cL_acts 7 = .ok (.iload_n 3, 1) := by decide +kernel
theorem dL_acts_8 : decode cL_acts 8 = .ok (.iconst 1, 1) := by decide +kernel
theorem dL_acts_9 : decode cL_acts 9 = .ok (.iadd, 1) := by decide +kernel
theorem dL_acts_10 : decode cL_acts 10 = .ok (.iload_n 2, 1) := by decide +kernel
theorem dL_acts_11 : decode cL_acts 11 = .ok (.iconst 3, 1) := by decide +kernel
theorem dL_acts_12 : decode cL_acts 12 = .ok (.ishr, 1) := by decide +kernel
theorem dL_acts_13 : decode cL_acts 13 = .ok (.iconst 5, 1) := by decide +kernel
theorem dL_acts_14 : decode cL_acts 14 = .ok (.invokestatic 29, 3) := by decide +kernel
theorem dL_acts_17 : decode cL_acts 17 = .ok (.iadd, 1) := by decide +kernel
theorem dL_acts_18 : decode cL_acts 18 = .ok (.bipush 6, 2) := by decide +kernel
theorem dL_acts_20 : decode cL_acts 20 = .ok (.irem, 1) := by decide +kernel
theorem dL_acts_21 : decode cL_acts 21 = .ok (.istore 4, 2) := by decide +kernel
theorem dL_acts_23 : decode cL_acts 23 = .ok (.iconst 1, 1) := by decide +kernel
theorem dL_acts_24 : decode cL_acts 24 = .ok (.iload_n 2, 1) := by decide +kernel
theorem dL_acts_25 : decode cL_acts 25 = .ok (.bipush 6, 2) := by decide +kernel
theorem dL_acts_27 : decode cL_acts 27 = .ok (.ishr, 1) := by decide +kernel
theorem dL_acts_28 : decode cL_acts 28 = .ok (.iload_n 2, 1) := by decide +kernel
theorem dL_acts_29 : decode cL_acts 29 = .ok (.bipush 20, 2) := by decide +kernel
theorem dL_acts_31 : decode cL_acts 31 = .ok (.ishr, 1) := by decide +kernel
theorem dL_acts_32 : decode cL_acts 32 = .ok (.iconst 1, 1) := by decide +kernel
theorem dL_acts_33 : decode cL_acts 33 = .ok (.iand, 1) := by decide +kernel
theorem dL_acts_34 : decode cL_acts 34 = .ok (.ifCond .ne 9, 3) := by decide +kernel
theorem dL_acts_37 : decode cL_acts 37 = .ok (.sipush 9999, 3) := by decide +kernel
theorem dL_acts_40 : decode cL_acts 40 = .ok (.goto 6, 3) := by decide +kernel
theorem dL_acts_43 : decode cL_acts 43 = .ok (.sipush 600, 3) := by decide +kernel
theorem dL_acts_46 : decode cL_acts 46 = .ok (.invokestatic 29, 3) := by decide +kernel
theorem dL_acts_49 : decode cL_acts 49 = .ok (.iadd, 1) := by decide +kernel
theorem dL_acts_50 : decode cL_acts 50 = .ok (.istore 5, 2) := by decide +kernel
theorem dL_acts_52 : decode cL_acts 52 = .ok (.aload_n 0, 1) := by decide +kernel
theorem dL_acts_53 : decode cL_acts 53 = .ok (.iconst 0, 1) := by decide +kernel
theorem dL_acts_54 : decode cL_acts 54 = .ok (.invokevirtual 13, 3) := by decide +kernel
theorem dL_acts_57 : decode cL_acts 57 = .ok (.istore 6, 2) := by decide +kernel
theorem dL_acts_59 : decode cL_acts 59 = .ok (.aload_n 0, 1) := by decide +kernel
theorem dL_acts_60 : decode cL_acts 60 = .ok (.iconst 1, 1) := by decide +kernel
theorem dL_acts_61 : decode cL_acts 61 = .ok (.invokevirtual 13, 3) := by decide +kernel
theorem dL_acts_64 : decode cL_acts 64 = .ok (.istore 7, 2) := by decide +kernel
theorem dL_acts_66 : decode cL_acts 66 = .ok (.aload_n 0, 1) := by decide +kernel
theorem dL_acts_67 : decode cL_acts 67 = .ok (.iconst 2, 1) := by decide +kernel
theorem dL_acts_68 : decode cL_acts 68 = .ok (.invokevirtual 13, 3) := by decide +kernel
theorem dL_acts_71 : decode cL_acts 71 = .ok (.istore 8, 2) := by decide +kernel
theorem dL_acts_73 : decode cL_acts 73 = .ok (.aload_n 0, 1) := by decide +kernel
theorem dL_acts_74 : decode cL_acts 74 = .ok (.iconst 3, 1) := by decide +kernel
theorem dL_acts_75 : decode cL_acts 75 = .ok (.invokevirtual 13, 3) := by decide +kernel
theorem dL_acts_78 : decode cL_acts 78 = .ok (.istore 9, 2) := by decide +kernel
theorem dL_acts_80 : decode cL_acts 80 = .ok (.aload_n 0, 1) := by decide +kernel
theorem dL_acts_81 : decode cL_acts 81 = .ok (.bipush 9, 2) := by decide +kernel
theorem dL_acts_83 : decode cL_acts 83 = .ok (.invokevirtual 13, 3) := by decide +kernel
theorem dL_acts_86 : decode cL_acts 86 = .ok (.istore 10, 2) := by decide +kernel
theorem dL_acts_88 : decode cL_acts 88 = .ok (.aload_n 0, 1) := by decide +kernel
theorem dL_acts_89 : decode cL_acts 89 = .ok (.iload_n 3, 1) := by decide +kernel
theorem dL_acts_90 : decode cL_acts 90 = .ok (.iconst 4, 1) := by decide +kernel
theorem dL_acts_91 : decode cL_acts 91 = .ok (.invokevirtual 19, 3) := by decide +kernel
theorem dL_acts_94 : decode cL_acts 94 = .ok (.istore 11, 2) := by decide +kernel
theorem dL_acts_96 : decode cL_acts 96 = .ok (.iload_n 1, 1) := by decide +kernel
theorem dL_acts_97 : decode cL_acts 97 = .ok (.bipush 16, 2) := by decide +kernel
theorem dL_acts_99 : decode cL_acts 99 = .ok (.invokestatic 29, 3) := by decide +kernel
theorem dL_acts_102 : decode cL_acts 102 = .ok (.tableswitch 929 0 14 #[74, 74, 74, 170, 279, 279, 387, 493, 493, 673, 673, 798, 798, 803, 924], 74) := by decide +kernel
theorem dL_acts_176 : decode cL_acts 176 = .ok (.aload_n 0, 1) := by decide +kernel
theorem dL_acts_177 : decode cL_acts 177 = .ok (.iload_n 3, 1) := by decide +kernel
theorem dL_acts_178 : decode cL_acts 178 = .ok (.iconst 0, 1) := by decide +kernel
theorem dL_acts_179 : decode cL_acts 179 = .ok (.invokevirtual 19, 3) := by decide +kernel
theorem dL_acts_182 : decode cL_acts 182 = .ok (.istore 12, 2) := by decide +kernel
theorem dL_acts_184 : decode cL_acts 184 = .ok (.aload_n 0, 1) := by decide +kernel
theorem dL_acts_185 : decode cL_acts 185 = .ok (.iload_n 3, 1) := by decide +kernel
theorem dL_acts_186 : decode cL_acts 186 = .ok (.iload 5, 2) := by decide +kernel
theorem dL_acts_188 : decode cL_acts 188 = .ok (.invokevirtual 34, 3) := by decide +kernel
theorem dL_acts_191 : decode cL_acts 191 = .ok (.istore 13, 2) := by decide +kernel
theorem dL_acts_193 : decode cL_acts 193 = .ok (.iload 12, 2) := by decide +kernel
theorem dL_acts_195 : decode cL_acts 195 = .ok (.iload 5, 2) := by decide +kernel
theorem dL_acts_197 : decode cL_acts 197 = .ok (.iadd, 1) := by decide +kernel
theorem dL_acts_198 : decode cL_acts 198 = .ok (.ldc 37, 2) := by decide +kernel
theorem dL_acts_200 : decode cL_acts 200 = .ok (.if_icmp .le 30, 3) := by decide +kernel
theorem dL_acts_203 : decode cL_acts 203 = .ok (.iload 13, 2) := by decide +kernel
theorem dL_acts_205 : decode cL_acts 205 = .ok (.iconst (-1), 1) := by decide +kernel
theorem dL_acts_206 : decode cL_acts 206 = .ok (.if_icmp .ne 20, 3) := by decide +kernel
theorem dL_acts_209 : decode cL_acts 209 = .ok (.aload_n 0, 1) := by decide +kernel
theorem dL_acts_210 : decode cL_acts 210 = .ok (.bipush 9, 2) := by decide +kernel
theorem dL_acts_212 : decode cL_acts 212 = .ok (.invokevirtual 13, 3) := by decide +kernel
theorem dL_acts_215 : decode cL_acts 215 = .ok (.iload 10, 2) := by decide +kernel
theorem dL_acts_217 : decode cL_acts 217 = .ok (.iconst 1, 1) := by decide +kernel
theorem dL_acts_218 : decode cL_acts 218 = .ok (.iadd, 1) := by decide +kernel
theorem dL_acts_219 : decode cL_acts 219 = .ok (.if_icmp .ne 7, 3) := by decide +kernel
theorem dL_acts_222 : decode cL_acts 222 = .ok (.iconst 1, 1) := by decide +kernel
theorem dL_acts_223 : decode cL_acts 223 = .ok (.goto 48, 3) := by decide +kernel
theorem dL_acts_226 : decode cL_acts 226 = .ok (.iconst 0, 1) := by decide +kernel
theorem dL_acts_227 : decode cL_acts 227 = .ok (.goto 44, 3) := by decide +kernel
theorem dL_acts_230 : decode cL_acts 230 = .ok (.iload 13, 2) := by decide +kernel
theorem dL_acts_232 : decode cL_acts 232 = .ok (.iload 12, 2) := by decide +kernel
theorem dL_acts_234 : decode cL_acts 234 = .ok (.iload 5, 2) := by decide +kernel
theorem dL_acts_236 : decode cL_acts 236 = .ok (.iadd, 1) := by decide +kernel
theorem dL_acts_237 : decode cL_acts 237 = .ok (.if_icmp .ne 33, 3) := by decide +kernel
theorem dL_acts_240 : decode cL_acts 240 = .ok (.aload_n 0, 1) := by decide +kernel
theorem dL_acts_241 : decode cL_acts 241 = .ok (.iconst 0, 1) := by decide +kernel
theorem dL_acts_242 : decode cL_acts 242 = .ok (.invokevirtual 13, 3) := by decide +kernel
theorem dL_acts_245 : decode cL_acts 245 = .ok (.iload 6, 2) := by decide +kernel
theorem dL_acts_247 : decode cL_acts 247 = .ok (.iload 5, 2) := by decide +kernel
theorem dL_acts_249 : decode cL_acts 249 = .ok (.iadd, 1) := by decide +kernel
theorem dL_acts_250 : decode cL_acts 250 = .ok (.if_icmp .ne 20, 3) := by decide +kernel
theorem dL_acts_253 : decode cL_acts 253 = .ok (.aload_n 0, 1) := by decide +kernel
theorem dL_acts_254 : decode cL_acts 254 = .ok (.iconst 2, 1) := by decide +kernel
theorem dL_acts_255 : decode cL_acts 255 = .ok (.invokevirtual 13, 3) := by decide +kernel
theorem dL_acts_258 : decode cL_acts 258 = .ok (.iload 8, 2) := by decide +kernel
theorem dL_acts_260 : decode cL_acts 260 = .ok (.iload 5, 2) := by decide +kernel
theorem dL_acts_262 : decode cL_acts 262 = .ok (.iadd, 1) := by decide +kernel
theorem dL_acts_263 : decode cL_acts 263 = .ok (.if_icmp .ne 7, 3) := by decide +kernel
theorem dL_acts_266 : decode cL_acts 266 = .ok (.iconst 1, 1) := by decide +kernel
theorem dL_acts_267 : decode cL_acts 267 = .ok (.goto 4, 3) := by decide +kernel
theorem dL_acts_270 : decode cL_acts 270 = .ok (.iconst 0, 1) := by decide +kernel
theorem dL_acts_271 : decode cL_acts 271 = .ok (.ireturn, 1) := by decide +kernel
theorem dL_acts_272 : decode cL_acts 272 = .ok (.aload_n 0, 1) := by decide +kernel
theorem dL_acts_273 : decode cL_acts 273 = .ok (.iload_n 3, 1) := by decide +kernel
theorem dL_acts_274 : decode cL_acts 274 = .ok (.iload 5, 2) := by decide +kernel
theorem dL_acts_276 : decode cL_acts 276 = .ok (.invokevirtual 38, 3) := by decide +kernel
theorem dL_acts_279 : decode cL_acts 279 = .ok (.istore 14, 2) := by decide +kernel
theorem dL_acts_281 : decode cL_acts 281 = .ok (.iload 14, 2) := by decide +kernel
theorem dL_acts_283 : decode cL_acts 283 = .ok (.iconst 1, 1) := by decide +kernel
theorem dL_acts_284 : decode cL_acts 284 = .ok (.if_icmp .ne 7, 3) := by decide +kernel
theorem dL_acts_287 : decode cL_acts 287 = .ok (.iconst 1, 1) := by decide +kernel
theorem dL_acts_288 : decode cL_acts 288 = .ok (.goto 4, 3) := by decide +kernel
theorem dL_acts_291 : decode cL_acts 291 = .ok (.iconst 0, 1) := by decide +kernel
theorem dL_acts_292 : decode cL_acts 292 = .ok (.iload 5, 2) := by decide +kernel
theorem dL_acts_294 : decode cL_acts 294 = .ok (.iload 11, 2) := by decide +kernel
theorem dL_acts_296 : decode cL_acts 296 = .ok (.if_icmp .le 7, 3) := by decide +kernel
theorem dL_acts_299 : decode cL_acts 299 = .ok (.iconst 1, 1) := by decide +kernel
theorem dL_acts_300 : decode cL_acts 300 = .ok (.goto 4, 3) := by decide +kernel
theorem dL_acts_303 : decode cL_acts 303 = .ok (.iconst 0, 1) := by decide +kernel
theorem dL_acts_304 : decode cL_acts 304 = .ok (.if_icmp .ne 75, 3) := by decide +kernel
theorem dL_acts_307 : decode cL_acts 307 = .ok (.iload 14, 2) := by decide +kernel
theorem dL_acts_309 : decode cL_acts 309 = .ok (.ifCond .lt 70, 3) := by decide +kernel
theorem dL_acts_312 : decode cL_acts 312 = .ok (.iload 14, 2) := by decide +kernel
theorem dL_acts_314 : decode cL_acts 314 = .ok (.iconst 2, 1) := by decide +kernel
theorem dL_acts_315 : decode cL_acts 315 = .ok (.if_icmp .gt 64, 3) := by decide +kernel
theorem dL_acts_318 : decode cL_acts 318 = .ok (.iload 14, 2) := by decide +kernel
theorem dL_acts_320 : decode cL_acts 320 = .ok (.ifCond .ne 32, 3) := by decide +kernel
theorem dL_acts_323 : decode cL_acts 323 = .ok (.aload_n 0, 1) := by decide +kernel
theorem dL_acts_324 : decode cL_acts 324 = .ok (.iconst 0, 1) := by decide +kernel
theorem dL_acts_325 : decode cL_acts 325 = .ok (.invokevirtual 13, 3) := by decide +kernel
theorem dL_acts_328 : decode cL_acts 328 = .ok (.iload 6, 2) := by decide +kernel
theorem dL_acts_330 : decode cL_acts 330 = .ok (.iload 5, 2) := by decide +kernel
theorem dL_acts_332 : decode cL_acts 332 = .ok (.isub, 1) := by decide +kernel
theorem dL_acts_333 : decode cL_acts 333 = .ok (.if_icmp .ne 46, 3) := by decide +kernel
theorem dL_acts_336 : decode cL_acts 336 = .ok (.aload_n 0, 1) := by decide +kernel
theorem dL_acts_337 : decode cL_acts 337 = .ok (.iconst 2, 1) := by decide +kernel
theorem dL_acts_338 : decode cL_acts 338 = .ok (.invokevirtual 13, 3) := by decide +kernel
theorem dL_acts_341 : decode cL_acts 341 = .ok (.iload 8, 2) := by decide +kernel
theorem dL_acts_343 : decode cL_acts 343 = .ok (.iload 5, 2) := by decide +kernel
theorem dL_acts_345 : decode cL_acts 345 = .ok (.isub, 1) := by decide +kernel
theorem dL_acts_346 : decode cL_acts 346 = .ok (.if_icmp .ne 33, 3) := by decide +kernel
theorem dL_acts_349 : decode cL_acts 349 = .ok (.goto 26, 3) := by decide +kernel
theorem dL_acts_352 : decode cL_acts 352 = .ok (.aload_n 0, 1) := by decide +kernel
theorem dL_acts_353 : decode cL_acts 353 = .ok (.bipush 9, 2) := by decide +kernel
theorem dL_acts_355 : decode cL_acts 355 = .ok (.invokevirtual 13, 3) := by decide +kernel
theorem dL_acts_358 : decode cL_acts 358 = .ok (.iload 10, 2) := by decide +kernel
theorem dL_acts_360 : decode cL_acts 360 = .ok (.iconst 1, 1) := by decide +kernel
theorem dL_acts_361 : decode cL_acts 361 = .ok (.iadd, 1) := by decide +kernel
theorem dL_acts_362 : decode cL_acts 362 = .ok (.if_icmp .ne 17, 3) := by decide +kernel
theorem dL_acts_365 : decode cL_acts 365 = .ok (.aload_n 0, 1) := by decide +kernel
theorem dL_acts_366 : decode cL_acts 366 = .ok (.iconst 0, 1) := by decide +kernel
theorem dL_acts_367 : decode cL_acts 367 = .ok (.invokevirtual 13, 3) := by decide +kernel
theorem dL_acts_370 : decode cL_acts 370 = .ok (.iload 6, 2) := by decide +kernel
theorem dL_acts_372 : decode cL_acts 372 = .ok (.if_icmp .ne 7, 3) := by decide +kernel
theorem dL_acts_375 : decode cL_acts 375 = .ok (.iconst 1, 1) := by decide +kernel
theorem dL_acts_376 : decode cL_acts 376 = .ok (.goto 4, 3) := by decide +kernel
theorem dL_acts_379 : decode cL_acts 379 = .ok (.iconst 0, 1) := by decide +kernel
theorem dL_acts_380 : decode cL_acts 380 = .ok (.ireturn, 1) := by decide +kernel
theorem dL_acts_381 : decode cL_acts 381 = .ok (.aload_n 0, 1) := by decide +kernel
theorem dL_acts_382 : decode cL_acts 382 = .ok (.iload_n 3, 1) := by decide +kernel
theorem dL_acts_383 : decode cL_acts 383 = .ok (.iload 4, 2) := by decide +kernel
theorem dL_acts_385 : decode cL_acts 385 = .ok (.invokevirtual 23, 3) := by decide +kernel
theorem dL_acts_388 : decode cL_acts 388 = .ok (.istore 15, 2) := by decide +kernel
theorem dL_acts_390 : decode cL_acts 390 = .ok (.aload_n 0, 1) := by decide +kernel
theorem dL_acts_391 : decode cL_acts 391 = .ok (.iload_n 3, 1) := by decide +kernel
theorem dL_acts_392 : decode cL_acts 392 = .ok (.iload 4, 2) := by decide +kernel
theorem dL_acts_394 : decode cL_acts 394 = .ok (.iload 5, 2) := by decide +kernel
theorem dL_acts_396 : decode cL_acts 396 = .ok (.invokevirtual 41, 3) := by decide +kernel
theorem dL_acts_399 : decode cL_acts 399 = .ok (.istore 16, 2) := by decide +kernel
theorem dL_acts_401 : decode cL_acts 401 = .ok (.iload 16, 2) := by decide +kernel
theorem dL_acts_403 : decode cL_acts 403 = .ok (.iconst (-1), 1) := by decide +kernel
theorem dL_acts_404 : decode cL_acts 404 = .ok (.if_icmp .ne 7, 3) := by decide +kernel
theorem dL_acts_407 : decode cL_acts 407 = .ok (.iconst 1, 1) := by decide +kernel
theorem dL_acts_408 : decode cL_acts 408 = .ok (.goto 4, 3) := by decide +kernel
theorem dL_acts_411 : decode cL_acts 411 = .ok (.iconst 0, 1) := by decide +kernel
theorem dL_acts_412 : decode cL_acts 412 = .ok (.iload 5, 2) := by decide +kernel
theorem dL_acts_414 : decode cL_acts 414 = .ok (.iload 11, 2) := by decide +kernel
theorem dL_acts_416 : decode cL_acts 416 = .ok (.if_icmp .le 7, 3) := by decide +kernel
theorem dL_acts_419 : decode cL_acts 419 = .ok (.iconst 1, 1) := by decide +kernel
theorem dL_acts_420 : decode cL_acts 420 = .ok (.goto 4, 3) := by decide +kernel
theorem dL_acts_423 : decode cL_acts 423 = .ok (.iconst 0, 1) := by decide +kernel
theorem dL_acts_424 : decode cL_acts 424 = .ok (.if_icmp .ne 63, 3) := by decide +kernel
theorem dL_acts_427 : decode cL_acts 427 = .ok (.iload 16, 2) := by decide +kernel
theorem dL_acts_429 : decode cL_acts 429 = .ok (.iconst (-1), 1) := by decide +kernel
theorem dL_acts_430 : decode cL_acts 430 = .ok (.if_icmp .ne 31, 3) := by decide +kernel
theorem dL_acts_433 : decode cL_acts 433 = .ok (.aload_n 0, 1) := by decide +kernel
theorem dL_acts_434 : decode cL_acts 434 = .ok (.iload_n 3, 1) := by decide +kernel
theorem dL_acts_435 : decode cL_acts 435 = .ok (.iload 4, 2) := by decide +kernel
theorem dL_acts_437 : decode cL_acts 437 = .ok (.invokevirtual 23, 3) := by decide +kernel
theorem dL_acts_440 : decode cL_acts 440 = .ok (.iload 15, 2) := by decide +kernel
theorem dL_acts_442 : decode cL_acts 442 = .ok (.if_icmp .ne 45, 3) := by decide +kernel
theorem dL_acts_445 : decode cL_acts 445 = .ok (.aload_n 0, 1) := by decide +kernel
theorem dL_acts_446 : decode cL_acts 446 = .ok (.bipush 9, 2) := by decide +kernel
theorem dL_acts_448 : decode cL_acts 448 = .ok (.invokevirtual 13, 3) := by decide +kernel
theorem dL_acts_451 : decode cL_acts 451 = .ok (.iload 10, 2) := by decide +kernel
theorem dL_acts_453 : decode cL_acts 453 = .ok (.iconst 1, 1) := by decide +kernel
theorem dL_acts_454 : decode cL_acts 454 = .ok (.iadd, 1) := by decide +kernel
theorem dL_acts_455 : decode cL_acts 455 = .ok (.if_icmp .ne 32, 3) := by decide +kernel
theorem dL_acts_458 : decode cL_acts 458 = .ok (.goto 25, 3) := by decide +kernel
theorem dL_acts_461 : decode cL_acts 461 = .ok (.iload 16, 2) := by decide +kernel
theorem dL_acts_463 : decode cL_acts 463 = .ok (.iload 15, 2) := by decide +kernel
theorem dL_acts_465 : decode cL_acts 465 = .ok (.iload 5, 2) := by decide +kernel
theorem dL_acts_467 : decode cL_acts 467 = .ok (.iadd, 1) := by decide +kernel
theorem dL_acts_468 : decode cL_acts 468 = .ok (.if_icmp .ne 19, 3) := by decide +kernel
theorem dL_acts_471 : decode cL_acts 471 = .ok (.aload_n 0, 1) := by decide +kernel
theorem dL_acts_472 : decode cL_acts 472 = .ok (.iload_n 3, 1) := by decide +kernel
theorem dL_acts_473 : decode cL_acts 473 = .ok (.iload 4, 2) := by decide +kernel
theorem dL_acts_475 : decode cL_acts 475 = .ok (.invokevirtual 23, 3) := by decide +kernel
theorem dL_acts_478 : decode cL_acts 478 = .ok (.iload 16, 2) := by decide +kernel
theorem dL_acts_480 : decode cL_acts 480 = .ok (.if_icmp .ne 7, 3) := by decide +kernel
theorem dL_acts_483 : decode cL_acts 483 = .ok (.iconst 1, 1) := by decide +kernel
theorem dL_acts_484 : decode cL_acts 484 = .ok (.goto 4, 3) := by decide +kernel
theorem dL_acts_487 : decode cL_acts 487 = .ok (.iconst 0, 1) := by decide +kernel
theorem dL_acts_488 : decode cL_acts 488 = .ok (.ireturn, 1) := by decide +kernel
theorem dL_acts_489 : decode cL_acts 489 = .ok (.aload_n 0, 1) := by decide +kernel
theorem dL_acts_490 : decode cL_acts 490 = .ok (.iload_n 3, 1) := by decide +kernel
theorem dL_acts_491 : decode cL_acts 491 = .ok (.iload 4, 2) := by decide +kernel
theorem dL_acts_493 : decode cL_acts 493 = .ok (.invokevirtual 23, 3) := by decide +kernel
theorem dL_acts_496 : decode cL_acts 496 = .ok (.istore 17, 2) := by decide +kernel
theorem dL_acts_498 : decode cL_acts 498 = .ok (.aload_n 0, 1) := by decide +kernel
theorem dL_acts_499 : decode cL_acts 499 = .ok (.iload_n 3, 1) := by decide +kernel
theorem dL_acts_500 : decode cL_acts 500 = .ok (.iload 4, 2) := by decide +kernel
theorem dL_acts_502 : decode cL_acts 502 = .ok (.iload 5, 2) := by decide +kernel
theorem dL_acts_504 : decode cL_acts 504 = .ok (.invokevirtual 45, 3) := by decide +kernel
theorem dL_acts_507 : decode cL_acts 507 = .ok (.istore 18, 2) := by decide +kernel
theorem dL_acts_509 : decode cL_acts 509 = .ok (.iload 18, 2) := by decide +kernel
theorem dL_acts_511 : decode cL_acts 511 = .ok (.iconst 1, 1) := by decide +kernel
theorem dL_acts_512 : decode cL_acts 512 = .ok (.if_icmp .ne 7, 3) := by decide +kernel
theorem dL_acts_515 : decode cL_acts 515 = .ok (.iconst 1, 1) := by decide +kernel
theorem dL_acts_516 : decode cL_acts 516 = .ok (.goto 4, 3) := by decide +kernel
theorem dL_acts_519 : decode cL_acts 519 = .ok (.iconst 0, 1) := by decide +kernel
theorem dL_acts_520 : decode cL_acts 520 = .ok (.iload 5, 2) := by decide +kernel
theorem dL_acts_522 : decode cL_acts 522 = .ok (.iload 17, 2) := by decide +kernel
theorem dL_acts_524 : decode cL_acts 524 = .ok (.if_icmp .le 7, 3) := by decide +kernel
theorem dL_acts_527 : decode cL_acts 527 = .ok (.iconst 1, 1) := by decide +kernel
theorem dL_acts_528 : decode cL_acts 528 = .ok (.goto 4, 3) := by decide +kernel
theorem dL_acts_531 : decode cL_acts 531 = .ok (.iconst 0, 1) := by decide +kernel
theorem dL_acts_532 : decode cL_acts 532 = .ok (.if_icmp .ne 61, 3) := by decide +kernel
theorem dL_acts_535 : decode cL_acts 535 = .ok (.iload 18, 2) := by decide +kernel
theorem dL_acts_537 : decode cL_acts 537 = .ok (.ifCond .lt 56, 3) := by decide +kernel
theorem dL_acts_540 : decode cL_acts 540 = .ok (.iload 18, 2) := by decide +kernel
theorem dL_acts_542 : decode cL_acts 542 = .ok (.iconst 2, 1) := by decide +kernel
theorem dL_acts_543 : decode cL_acts 543 = .ok (.if_icmp .gt 50, 3) := by decide +kernel
theorem dL_acts_546 : decode cL_acts 546 = .ok (.aload_n 0, 1) := by decide +kernel
theorem dL_acts_547 : decode cL_acts 547 = .ok (.iload_n 3, 1) := by decide +kernel
theorem dL_acts_548 : decode cL_acts 548 = .ok (.iload 4, 2) := by decide +kernel
theorem dL_acts_550 : decode cL_acts 550 = .ok (.invokevirtual 23, 3) := by decide +kernel
theorem dL_acts_553 : decode cL_acts 553 = .ok (.iload 18, 2) := by decide +kernel
theorem dL_acts_555 : decode cL_acts 555 = .ok (.ifCond .ne 11, 3) := by decide +kernel
theorem dL_acts_558 : decode cL_acts 558 = .ok (.iload 17, 2) := by decide +kernel
theorem dL_acts_560 : decode cL_acts 560 = .ok (.iload 5, 2) := by decide +kernel
theorem dL_acts_562 : decode cL_acts 562 = .ok (.isub, 1) := by decide +kernel
theorem dL_acts_563 : decode cL_acts 563 = .ok (.goto 5, 3) := by decide +kernel
theorem dL_acts_566 : decode cL_acts 566 = .ok (.iload 17, 2) := by decide +kernel
theorem dL_acts_568 : decode cL_acts 568 = .ok (.if_icmp .ne 25, 3) := by decide +kernel
theorem dL_acts_571 : decode cL_acts 571 = .ok (.aload_n 0, 1) := by decide +kernel
theorem dL_acts_572 : decode cL_acts 572 = .ok (.iload 4, 2) := by decide +kernel
theorem dL_acts_574 : decode cL_acts 574 = .ok (.iconst 3, 1) := by decide +kernel
theorem dL_acts_575 : decode cL_acts 575 = .ok (.invokevirtual 19, 3) := by decide +kernel
theorem dL_acts_578 : decode cL_acts 578 = .ok (.aload_n 0, 1) := by decide +kernel
theorem dL_acts_579 : decode cL_acts 579 = .ok (.iload 4, 2) := by decide +kernel
theorem dL_acts_581 : decode cL_acts 581 = .ok (.bipush 6, 2) := by decide +kernel
theorem dL_acts_583 : decode cL_acts 583 = .ok (.invokevirtual 19, 3) := by decide +kernel
theorem dL_acts_586 : decode cL_acts 586 = .ok (.if_icmp .lt 7, 3) := by decide +kernel
theorem dL_acts_589 : decode cL_acts 589 = .ok (.iconst 1, 1) := by decide +kernel
theorem dL_acts_590 : decode cL_acts 590 = .ok (.goto 4, 3) := by decide +kernel
theorem dL_acts_593 : decode cL_acts 593 = .ok (.iconst 0, 1) := by decide +kernel
theorem dL_acts_594 : decode cL_acts 594 = .ok (.ireturn, 1) := by decide +kernel
theorem dL_acts_595 : decode cL_acts 595 = .ok (.iconst 1, 1) := by decide +kernel
theorem dL_acts_596 : decode cL_acts 596 = .ok (.iload_n 2, 1) := by decide +kernel
theorem dL_acts_597 : decode cL_acts 597 = .ok (.bipush 10, 2) := by decide +kernel
theorem dL_acts_599 : decode cL_acts 599 = .ok (.ishr, 1) := by decide +kernel
theorem dL_acts_600 : decode cL_acts 600 = .ok (.bipush 52, 2) := by decide +kernel
theorem dL_acts_602 : decode cL_acts 602 = .ok (.invokestatic 29, 3) := by decide +kernel
theorem dL_acts_605 : decode cL_acts 605 = .ok (.iadd, 1) := by decide +kernel
theorem dL_acts_606 : decode cL_acts 606 = .ok (.istore 19, 2) := by decide +kernel
theorem dL_acts_608 : decode cL_acts 608 = .ok (.aload_n 0, 1) := by decide +kernel
theorem dL_acts_609 : decode cL_acts 609 = .ok (.iload_n 3, 1) := by decide +kernel
theorem dL_acts_610 : decode cL_acts 610 = .ok (.iload 5, 2) := by decide +kernel
theorem dL_acts_612 : decode cL_acts 612 = .ok (.invokevirtual 48, 3) := by decide +kernel
theorem dL_acts_615 : decode cL_acts 615 = .ok (.istore 20, 2) := by decide +kernel
theorem dL_acts_617 : decode cL_acts 617 = .ok (.aload_n 0, 1) := by decide +kernel
theorem dL_acts_618 : decode cL_acts 618 = .ok (.iconst 5, 1) := by decide +kernel
theorem dL_acts_619 : decode cL_acts 619 = .ok (.invokevirtual 13, 3) := by decide +kernel
theorem dL_acts_622 : decode cL_acts 622 = .ok (.istore 21, 2) := by decide +kernel
theorem dL_acts_624 : decode cL_acts 624 = .ok (.iload 5, 2) := by decide +kernel
theorem dL_acts_626 : decode cL_acts 626 = .ok (.aload_n 0, 1) := by decide +kernel
theorem dL_acts_627 : decode cL_acts 627 = .ok (.iconst 0, 1) := by decide +kernel
theorem dL_acts_628 : decode cL_acts 628 = .ok (.invokevirtual 26, 3) := by decide +kernel
theorem dL_acts_631 : decode cL_acts 631 = .ok (.imul, 1) := by decide +kernel
theorem dL_acts_632 : decode cL_acts 632 = .ok (.sipush 1000, 3) := by decide +kernel
theorem dL_acts_635 : decode cL_acts 635 = .ok (.idiv, 1) := by decide +kernel
theorem dL_acts_636 : decode cL_acts 636 = .ok (.istore 22, 2) := by decide +kernel
theorem dL_acts_638 : decode cL_acts 638 = .ok (.aload_n 0, 1) := by decide +kernel
theorem dL_acts_639 : decode cL_acts 639 = .ok (.iload_n 3, 1) := by decide +kernel
theorem dL_acts_640 : decode cL_acts 640 = .ok (.iload 5, 2) := by decide +kernel
theorem dL_acts_642 : decode cL_acts 642 = .ok (.iload 19, 2) := by decide +kernel
theorem dL_acts_644 : decode cL_acts 644 = .ok (.invokevirtual 51, 3) := by decide +kernel
theorem dL_acts_647 : decode cL_acts 647 = .ok (.iload 20, 2) := by decide +kernel
theorem dL_acts_649 : decode cL_acts 649 = .ok (.if_icmp .ne 7, 3) := by decide +kernel
theorem dL_acts_652 : decode cL_acts 652 = .ok (.iconst 1, 1) := by decide +kernel
theorem dL_acts_653 : decode cL_acts 653 = .ok (.goto 4, 3) := by decide +kernel
theorem dL_acts_656 : decode cL_acts 656 = .ok (.iconst 0, 1) := by decide +kernel
theorem dL_acts_657 : decode cL_acts 657 = .ok (.istore 23, 2) := by decide +kernel
theorem dL_acts_659 : decode cL_acts 659 = .ok (.iload 23, 2) := by decide +kernel
theorem dL_acts_661 : decode cL_acts 661 = .ok (.ifCond .eq 112, 3) := by decide +kernel
theorem dL_acts_664 : decode cL_acts 664 = .ok (.iload 20, 2) := by decide +kernel
theorem dL_acts_666 : decode cL_acts 666 = .ok (.ifCond .le 29, 3) := by decide +kernel
theorem dL_acts_669 : decode cL_acts 669 = .ok (.aload_n 0, 1) := by decide +kernel
theorem dL_acts_670 : decode cL_acts 670 = .ok (.bipush 9, 2) := by decide +kernel
theorem dL_acts_672 : decode cL_acts 672 = .ok (.invokevirtual 13, 3) := by decide +kernel
theorem dL_acts_675 : decode cL_acts 675 = .ok (.iload 10, 2) := by decide +kernel
theorem dL_acts_677 : decode cL_acts 677 = .ok (.iconst 1, 1) := by decide +kernel
theorem dL_acts_678 : decode cL_acts 678 = .ok (.iadd, 1) := by decide +kernel
theorem dL_acts_679 : decode cL_acts 679 = .ok (.if_icmp .ne 94, 3) := by decide +kernel
theorem dL_acts_682 : decode cL_acts 682 = .ok (.aload_n 0, 1) := by decide +kernel
theorem dL_acts_683 : decode cL_acts 683 = .ok (.iconst 3, 1) := by decide +kernel
theorem dL_acts_684 : decode cL_acts 684 = .ok (.invokevirtual 13, 3) := by decide +kernel
theorem dL_acts_687 : decode cL_acts 687 = .ok (.iload 9, 2) := by decide +kernel
theorem dL_acts_689 : decode cL_acts 689 = .ok (.if_icmp .ne 84, 3) := by decide +kernel
theorem dL_acts_692 : decode cL_acts 692 = .ok (.goto 77, 3) := by decide +kernel
theorem dL_acts_695 : decode cL_acts 695 = .ok (.aload_n 0, 1) := by decide +kernel
theorem dL_acts_696 : decode cL_acts 696 = .ok (.iload_n 3, 1) := by decide +kernel
theorem dL_acts_697 : decode cL_acts 697 = .ok (.bipush 6, 2) := by decide +kernel
theorem dL_acts_699 : decode cL_acts 699 = .ok (.invokevirtual 19, 3) := by decide +kernel
theorem dL_acts_702 : decode cL_acts 702 = .ok (.iload 5, 2) := by decide +kernel
theorem dL_acts_704 : decode cL_acts 704 = .ok (.if_icmp .ne 69, 3) := by decide +kernel
theorem dL_acts_707 : decode cL_acts 707 = .ok (.aload_n 0, 1) := by decide +kernel
theorem dL_acts_708 : decode cL_acts 708 = .ok (.iload_n 3, 1) := by decide +kernel
theorem dL_acts_709 : decode cL_acts 709 = .ok (.iconst 0, 1) := by decide +kernel
theorem dL_acts_710 : decode cL_acts 710 = .ok (.invokevirtual 54, 3) := by decide +kernel
theorem dL_acts_713 : decode cL_acts 713 = .ok (.iload 19, 2) := by decide +kernel
theorem dL_acts_715 : decode cL_acts 715 = .ok (.if_icmp .gt 58, 3) := by decide +kernel
theorem dL_acts_718 : decode cL_acts 718 = .ok (.aload_n 0, 1) := by decide +kernel
theorem dL_acts_719 : decode cL_acts 719 = .ok (.iconst 1, 1) := by decide +kernel
theorem dL_acts_720 : decode cL_acts 720 = .ok (.invokevirtual 13, 3) := by decide +kernel
theorem dL_acts_723 : decode cL_acts 723 = .ok (.iload 7, 2) := by decide +kernel
theorem dL_acts_725 : decode cL_acts 725 = .ok (.iload 22, 2) := by decide +kernel
theorem dL_acts_727 : decode cL_acts 727 = .ok (.iadd, 1) := by decide +kernel
theorem dL_acts_728 : decode cL_acts 728 = .ok (.if_icmp .ne 45, 3) := by decide +kernel
theorem dL_acts_731 : decode cL_acts 731 = .ok (.aload_n 0, 1) := by decide +kernel
theorem dL_acts_732 : decode cL_acts 732 = .ok (.iconst 0, 1) := by decide +kernel
theorem dL_acts_733 : decode cL_acts 733 = .ok (.invokevirtual 13, 3) := by decide +kernel
theorem dL_acts_736 : decode cL_acts 736 = .ok (.iload 6, 2) := by decide +kernel
theorem dL_acts_738 : decode cL_acts 738 = .ok (.iload 5, 2) := by decide +kernel
theorem dL_acts_740 : decode cL_acts 740 = .ok (.isub, 1) := by decide +kernel
theorem dL_acts_741 : decode cL_acts 741 = .ok (.iload 22, 2) := by decide +kernel
theorem dL_acts_743 : decode cL_acts 743 = .ok (.iadd, 1) := by decide +kernel
theorem dL_acts_744 : decode cL_acts 744 = .ok (.if_icmp .ne 29, 3) := by decide +kernel
theorem dL_acts_747 : decode cL_acts 747 = .ok (.aload_n 0, 1) := by decide +kernel
theorem dL_acts_748 : decode cL_acts 748 = .ok (.iconst 5, 1) := by decide +kernel
theorem dL_acts_749 : decode cL_acts 749 = .ok (.invokevirtual 13, 3) := by decide +kernel
theorem dL_acts_752 : decode cL_acts 752 = .ok (.iload 21, 2) := by decide +kernel
theorem dL_acts_754 : decode cL_acts 754 = .ok (.iconst 1, 1) := by decide +kernel
theorem dL_acts_755 : decode cL_acts 755 = .ok (.iadd, 1) := by decide +kernel
theorem dL_acts_756 : decode cL_acts 756 = .ok (.if_icmp .ne 17, 3) := by decide +kernel
theorem dL_acts_759 : decode cL_acts 759 = .ok (.aload_n 0, 1) := by decide +kernel
theorem dL_acts_760 : decode cL_acts 760 = .ok (.iload_n 3, 1) := by decide +kernel
theorem dL_acts_761 : decode cL_acts 761 = .ok (.bipush 9, 2) := by decide +kernel
theorem dL_acts_763 : decode cL_acts 763 = .ok (.invokevirtual 19, 3) := by decide +kernel
theorem dL_acts_766 : decode cL_acts 766 = .ok (.ifCond .ne 7, 3) := by decide +kernel
theorem dL_acts_769 : decode cL_acts 769 = .ok (.iconst 1, 1) := by decide +kernel
theorem dL_acts_770 : decode cL_acts 770 = .ok (.goto 4, 3) := by decide +kernel
theorem dL_acts_773 : decode cL_acts 773 = .ok (.iconst 0, 1) := by decide +kernel
theorem dL_acts_774 : decode cL_acts 774 = .ok (.ireturn, 1) := by decide +kernel
theorem dL_acts_775 : decode cL_acts 775 = .ok (.aload_n 0, 1) := by decide +kernel
theorem dL_acts_776 : decode cL_acts 776 = .ok (.iload_n 3, 1) := by decide +kernel
theorem dL_acts_777 : decode cL_acts 777 = .ok (.bipush 6, 2) := by decide +kernel
theorem dL_acts_779 : decode cL_acts 779 = .ok (.invokevirtual 19, 3) := by decide +kernel
theorem dL_acts_782 : decode cL_acts 782 = .ok (.istore 24, 2) := by decide +kernel
theorem dL_acts_784 : decode cL_acts 784 = .ok (.iload 24, 2) := by decide +kernel
theorem dL_acts_786 : decode cL_acts 786 = .ok (.ifCond .le 15, 3) := by decide +kernel
theorem dL_acts_789 : decode cL_acts 789 = .ok (.iload 5, 2) := by decide +kernel
theorem dL_acts_791 : decode cL_acts 791 = .ok (.iload 24, 2) := by decide +kernel
theorem dL_acts_793 : decode cL_acts 793 = .ok (.if_icmp .le 8, 3) := by decide +kernel
theorem dL_acts_796 : decode cL_acts 796 = .ok (.iload 24, 2) := by decide +kernel
theorem dL_acts_798 : decode cL_acts 798 = .ok (.goto 5, 3) := by decide +kernel
theorem dL_acts_801 : decode cL_acts 801 = .ok (.iload 5, 2) := by decide +kernel
theorem dL_acts_803 : decode cL_acts 803 = .ok (.istore 25, 2) := by decide +kernel
theorem dL_acts_805 : decode cL_acts 805 = .ok (.aload_n 0, 1) := by decide +kernel
theorem dL_acts_806 : decode cL_acts 806 = .ok (.iload_n 3, 1) := by decide +kernel
theorem dL_acts_807 : decode cL_acts 807 = .ok (.iload 25, 2) := by decide +kernel
theorem dL_acts_809 : decode cL_acts 809 = .ok (.invokevirtual 57, 3) := by decide +kernel
theorem dL_acts_812 : decode cL_acts 812 = .ok (.istore 26, 2) := by decide +kernel
theorem dL_acts_814 : decode cL_acts 814 = .ok (.iload 26, 2) := by decide +kernel
theorem dL_acts_816 : decode cL_acts 816 = .ok (.iconst (-1), 1) := by decide +kernel
theorem dL_acts_817 : decode cL_acts 817 = .ok (.if_icmp .ne 7, 3) := by decide +kernel
theorem dL_acts_820 : decode cL_acts 820 = .ok (.iconst 1, 1) := by decide +kernel
theorem dL_acts_821 : decode cL_acts 821 = .ok (.goto 4, 3) := by decide +kernel
theorem dL_acts_824 : decode cL_acts 824 = .ok (.iconst 0, 1) := by decide +kernel
theorem dL_acts_825 : decode cL_acts 825 = .ok (.iload 25, 2) := by decide +kernel
theorem dL_acts_827 : decode cL_acts 827 = .ok (.iload 24, 2) := by decide +kernel
theorem dL_acts_829 : decode cL_acts 829 = .ok (.if_icmp .le 7, 3) := by decide +kernel
theorem dL_acts_832 : decode cL_acts 832 = .ok (.iconst 1, 1) := by decide +kernel
theorem dL_acts_833 : decode cL_acts 833 = .ok (.goto 4, 3) := by decide +kernel
theorem dL_acts_836 : decode cL_acts 836 = .ok (.iconst 0, 1) := by decide +kernel
theorem dL_acts_837 : decode cL_acts 837 = .ok (.if_icmp .ne 61, 3) := by decide +kernel
theorem dL_acts_840 : decode cL_acts 840 = .ok (.iload 26, 2) := by decide +kernel
theorem dL_acts_842 : decode cL_acts 842 = .ok (.iconst (-1), 1) := by decide +kernel
theorem dL_acts_843 : decode cL_acts 843 = .ok (.if_icmp .eq 51, 3) := by decide +kernel
theorem dL_acts_846 : decode cL_acts 846 = .ok (.iload 26, 2) := by decide +kernel
theorem dL_acts_848 : decode cL_acts 848 = .ok (.iload 24, 2) := by decide +kernel
theorem dL_acts_850 : decode cL_acts 850 = .ok (.iload 25, 2) := by decide +kernel
theorem dL_acts_852 : decode cL_acts 852 = .ok (.isub, 1) := by decide +kernel
theorem dL_acts_853 : decode cL_acts 853 = .ok (.if_icmp .ne 45, 3) := by decide +kernel
theorem dL_acts_856 : decode cL_acts 856 = .ok (.aload_n 0, 1) := by decide +kernel
theorem dL_acts_857 : decode cL_acts 857 = .ok (.iconst 3, 1) := by decide +kernel
theorem dL_acts_858 : decode cL_acts 858 = .ok (.invokevirtual 13, 3) := by decide +kernel
theorem dL_acts_861 : decode cL_acts 861 = .ok (.iload 9, 2) := by decide +kernel
theorem dL_acts_863 : decode cL_acts 863 = .ok (.iload 25, 2) := by decide +kernel
theorem dL_acts_865 : decode cL_acts 865 = .ok (.isub, 1) := by decide +kernel
theorem dL_acts_866 : decode cL_acts 866 = .ok (.if_icmp .ne 32, 3) := by decide +kernel
theorem dL_acts_869 : decode cL_acts 869 = .ok (.aload_n 0, 1) := by decide +kernel
theorem dL_acts_870 : decode cL_acts 870 = .ok (.iconst 0, 1) := by decide +kernel
theorem dL_acts_871 : decode cL_acts 871 = .ok (.invokevirtual 13, 3) := by decide +kernel
theorem dL_acts_874 : decode cL_acts 874 = .ok (.iload 6, 2) := by decide +kernel
theorem dL_acts_876 : decode cL_acts 876 = .ok (.iload 25, 2) := by decide +kernel
theorem dL_acts_878 : decode cL_acts 878 = .ok (.iadd, 1) := by decide +kernel
theorem dL_acts_879 : decode cL_acts 879 = .ok (.if_icmp .ne 19, 3) := by decide +kernel
theorem dL_acts_882 : decode cL_acts 882 = .ok (.aload_n 0, 1) := by decide +kernel
theorem dL_acts_883 : decode cL_acts 883 = .ok (.iload_n 3, 1) := by decide +kernel
theorem dL_acts_884 : decode cL_acts 884 = .ok (.bipush 6, 2) := by decide +kernel
theorem dL_acts_886 : decode cL_acts 886 = .ok (.invokevirtual 19, 3) := by decide +kernel
theorem dL_acts_889 : decode cL_acts 889 = .ok (.iload 26, 2) := by decide +kernel
theorem dL_acts_891 : decode cL_acts 891 = .ok (.if_icmp .ne 7, 3) := by decide +kernel
theorem dL_acts_894 : decode cL_acts 894 = .ok (.iconst 1, 1) := by decide +kernel
theorem dL_acts_895 : decode cL_acts 895 = .ok (.goto 4, 3) := by decide +kernel
theorem dL_acts_898 : decode cL_acts 898 = .ok (.iconst 0, 1) := by decide +kernel
theorem dL_acts_899 : decode cL_acts 899 = .ok (.ireturn, 1) := by decide +kernel
theorem dL_acts_900 : decode cL_acts 900 = .ok (.aload_n 0, 1) := by decide +kernel
theorem dL_acts_901 : decode cL_acts 901 = .ok (.invokestatic 60, 3) := by decide +kernel
theorem dL_acts_904 : decode cL_acts 904 = .ok (.ireturn, 1) := by decide +kernel
theorem dL_acts_905 : decode cL_acts 905 = .ok (.iconst 1, 1) := by decide +kernel
theorem dL_acts_906 : decode cL_acts 906 = .ok (.istore 27, 2) := by decide +kernel
theorem dL_acts_908 : decode cL_acts 908 = .ok (.iconst 0, 1) := by decide +kernel
theorem dL_acts_909 : decode cL_acts 909 = .ok (.istore 28, 2) := by decide +kernel
theorem dL_acts_911 : decode cL_acts 911 = .ok (.iload 28, 2) := by decide +kernel
theorem dL_acts_913 : decode cL_acts 913 = .ok (.bipush 6, 2) := by decide +kernel
theorem dL_acts_915 : decode cL_acts 915 = .ok (.if_icmp .ge 44, 3) := by decide +kernel
theorem dL_acts_918 : decode cL_acts 918 = .ok (.iload 27, 2) := by decide +kernel
theorem dL_acts_920 : decode cL_acts 920 = .ok (.ifCond .eq 30, 3) := by decide +kernel
theorem dL_acts_923 : decode cL_acts 923 = .ok (.aload_n 0, 1) := by decide +kernel
theorem dL_acts_924 : decode cL_acts 924 = .ok (.iload 28, 2) := by decide +kernel
theorem dL_acts_926 : decode cL_acts 926 = .ok (.iconst 5, 1) := by decide +kernel
theorem dL_acts_927 : decode cL_acts 927 = .ok (.invokevirtual 19, 3) := by decide +kernel
theorem dL_acts_930 : decode cL_acts 930 = .ok (.bipush 9, 2) := by decide +kernel
theorem dL_acts_932 : decode cL_acts 932 = .ok (.aload_n 0, 1) := by decide +kernel
theorem dL_acts_933 : decode cL_acts 933 = .ok (.iload 28, 2) := by decide +kernel
theorem dL_acts_935 : decode cL_acts 935 = .ok (.iconst 0, 1) := by decide +kernel
theorem dL_acts_936 : decode cL_acts 936 = .ok (.invokevirtual 19, 3) := by decide +kernel
theorem dL_acts_939 : decode cL_acts 939 = .ok (.imul, 1) := by decide +kernel
theorem dL_acts_940 : decode cL_acts 940 = .ok (.iadd, 1) := by decide +kernel
theorem dL_acts_941 : decode cL_acts 941 = .ok (.ldc 64, 2) := by decide +kernel
theorem dL_acts_943 : decode cL_acts 943 = .ok (.if_icmp .gt 7, 3) := by decide +kernel
theorem dL_acts_946 : decode cL_acts 946 = .ok (.iconst 1, 1) := by decide +kernel
theorem dL_acts_947 : decode cL_acts 947 = .ok (.goto 4, 3) := by decide +kernel
theorem dL_acts_950 : decode cL_acts 950 = .ok (.iconst 0, 1) := by decide +kernel
theorem dL_acts_951 : decode cL_acts 951 = .ok (.istore 27, 2) := by decide +kernel
theorem dL_acts_953 : decode cL_acts 953 = .ok (.iinc 28 1, 3) := by decide +kernel
theorem dL_acts_956 : decode cL_acts 956 = .ok (.goto (-45), 3) := by decide +kernel
theorem dL_acts_959 : decode cL_acts 959 = .ok (.aload_n 0, 1) := by decide +kernel
theorem dL_acts_960 : decode cL_acts 960 = .ok (.bipush 8, 2) := by decide +kernel
theorem dL_acts_962 : decode cL_acts 962 = .ok (.invokevirtual 13, 3) := by decide +kernel
theorem dL_acts_965 : decode cL_acts 965 = .ok (.istore 28, 2) := by decide +kernel
theorem dL_acts_967 : decode cL_acts 967 = .ok (.iload 27, 2) := by decide +kernel
theorem dL_acts_969 : decode cL_acts 969 = .ok (.ifCond .eq 39, 3) := by decide +kernel
theorem dL_acts_972 : decode cL_acts 972 = .ok (.aload_n 0, 1) := by decide +kernel
theorem dL_acts_973 : decode cL_acts 973 = .ok (.bipush 9, 2) := by decide +kernel
theorem dL_acts_975 : decode cL_acts 975 = .ok (.invokevirtual 65, 3) := by decide +kernel
theorem dL_acts_978 : decode cL_acts 978 = .ok (.iload 28, 2) := by decide +kernel
theorem dL_acts_980 : decode cL_acts 980 = .ok (.bipush 9, 2) := by decide +kernel
theorem dL_acts_982 : decode cL_acts 982 = .ok (.iadd, 1) := by decide +kernel
theorem dL_acts_983 : decode cL_acts 983 = .ok (.if_icmp .ne 21, 3) := by decide +kernel
theorem dL_acts_986 : decode cL_acts 986 = .ok (.aload_n 0, 1) := by decide +kernel
theorem dL_acts_987 : decode cL_acts 987 = .ok (.bipush 8, 2) := by decide +kernel
theorem dL_acts_989 : decode cL_acts 989 = .ok (.invokevirtual 13, 3) := by decide +kernel
theorem dL_acts_992 : decode cL_acts 992 = .ok (.iload 28, 2) := by decide +kernel
theorem dL_acts_994 : decode cL_acts 994 = .ok (.bipush 9, 2) := by decide +kernel
theorem dL_acts_996 : decode cL_acts 996 = .ok (.iadd, 1) := by decide +kernel
theorem dL_acts_997 : decode cL_acts 997 = .ok (.if_icmp .ne 7, 3) := by decide +kernel
theorem dL_acts_1000 : decode cL_acts 1000 = .ok (.iconst 1, 1) := by decide +kernel
theorem dL_acts_1001 : decode cL_acts 1001 = .ok (.goto 24, 3) := by decide +kernel
theorem dL_acts_1004 : decode cL_acts 1004 = .ok (.iconst 0, 1) := by decide +kernel
theorem dL_acts_1005 : decode cL_acts 1005 = .ok (.goto 20, 3) := by decide +kernel
theorem dL_acts_1008 : decode cL_acts 1008 = .ok (.aload_n 0, 1) := by decide +kernel
theorem dL_acts_1009 : decode cL_acts 1009 = .ok (.iconst 0, 1) := by decide +kernel
theorem dL_acts_1010 : decode cL_acts 1010 = .ok (.iload_n 2, 1) := by decide +kernel
theorem dL_acts_1011 : decode cL_acts 1011 = .ok (.bipush 63, 2) := by decide +kernel
theorem dL_acts_1013 : decode cL_acts 1013 = .ok (.iand, 1) := by decide +kernel
theorem dL_acts_1014 : decode cL_acts 1014 = .ok (.invokevirtual 68, 3) := by decide +kernel
theorem dL_acts_1017 : decode cL_acts 1017 = .ok (.ifCond .lt 7, 3) := by decide +kernel
theorem dL_acts_1020 : decode cL_acts 1020 = .ok (.iconst 1, 1) := by decide +kernel
theorem dL_acts_1021 : decode cL_acts 1021 = .ok (.goto 4, 3) := by decide +kernel
theorem dL_acts_1024 : decode cL_acts 1024 = .ok (.iconst 0, 1) := by decide +kernel
theorem dL_acts_1025 : decode cL_acts 1025 = .ok (.ireturn, 1) := by decide +kernel
theorem dL_acts_1026 : decode cL_acts 1026 = .ok (.aload_n 0, 1) := by decide +kernel
theorem dL_acts_1027 : decode cL_acts 1027 = .ok (.invokestatic 71, 3) := by decide +kernel
theorem dL_acts_1030 : decode cL_acts 1030 = .ok (.ireturn, 1) := by decide +kernel
theorem dL_acts_1031 : decode cL_acts 1031 = .ok (.iload_n 2, 1) := by decide +kernel
theorem dL_acts_1032 : decode cL_acts 1032 = .ok (.iconst 3, 1) := by decide +kernel
theorem dL_acts_1033 : decode cL_acts 1033 = .ok (.iand, 1) := by decide +kernel
theorem dL_acts_1034 : decode cL_acts 1034 = .ok (.ifCond .ne 24, 3) := by decide +kernel
theorem dL_acts_1037 : decode cL_acts 1037 = .ok (.aload_n 0, 1) := by decide +kernel
theorem dL_acts_1038 : decode cL_acts 1038 = .ok (.iconst 0, 1) := by decide +kernel
theorem dL_acts_1039 : decode cL_acts 1039 = .ok (.invokevirtual 74, 3) := by decide +kernel
theorem dL_acts_1042 : decode cL_acts 1042 = .ok (.aload_n 0, 1) := by decide +kernel
theorem dL_acts_1043 : decode cL_acts 1043 = .ok (.iconst 4, 1) := by decide +kernel
theorem dL_acts_1044 : decode cL_acts 1044 = .ok (.invokevirtual 13, 3) := by decide +kernel
theorem dL_acts_1047 : decode cL_acts 1047 = .ok (.if_icmp .ne 7, 3) := by decide +kernel
theorem dL_acts_1050 : decode cL_acts 1050 = .ok (.iconst 1, 1) := by decide +kernel
theorem dL_acts_1051 : decode cL_acts 1051 = .ok (.goto 60, 3) := by decide +kernel
theorem dL_acts_1054 : decode cL_acts 1054 = .ok (.iconst 0, 1) := by decide +kernel
theorem dL_acts_1055 : decode cL_acts 1055 = .ok (.goto 56, 3) := by decide +kernel
theorem dL_acts_1058 : decode cL_acts 1058 = .ok (.iload_n 2, 1) := by decide +kernel
theorem dL_acts_1059 : decode cL_acts 1059 = .ok (.iconst 3, 1) := by decide +kernel
theorem dL_acts_1060 : decode cL_acts 1060 = .ok (.iand, 1) := by decide +kernel
theorem dL_acts_1061 : decode cL_acts 1061 = .ok (.iconst 1, 1) := by decide +kernel
theorem dL_acts_1062 : decode cL_acts 1062 = .ok (.if_icmp .ne 28, 3) := by decide +kernel
theorem dL_acts_1065 : decode cL_acts 1065 = .ok (.aload_n 0, 1) := by decide +kernel
theorem dL_acts_1066 : decode cL_acts 1066 = .ok (.iconst 1, 1) := by decide +kernel
theorem dL_acts_1067 : decode cL_acts 1067 = .ok (.iconst 1, 1) := by decide +kernel
theorem dL_acts_1068 : decode cL_acts 1068 = .ok (.iload_n 2, 1) := by decide +kernel
theorem dL_acts_1069 : decode cL_acts 1069 = .ok (.iconst 2, 1) := by decide +kernel
theorem dL_acts_1070 : decode cL_acts 1070 = .ok (.ishr, 1) := by decide +kernel
theorem dL_acts_1071 : decode cL_acts 1071 = .ok (.iconst 5, 1) := by decide +kernel
theorem dL_acts_1072 : decode cL_acts 1072 = .ok (.invokestatic 29, 3) := by decide +kernel
theorem dL_acts_1075 : decode cL_acts 1075 = .ok (.iadd, 1) := by decide +kernel
theorem dL_acts_1076 : decode cL_acts 1076 = .ok (.invokevirtual 68, 3) := by decide +kernel
theorem dL_acts_1079 : decode cL_acts 1079 = .ok (.ifCond .le 7, 3) := by decide +kernel
theorem dL_acts_1082 : decode cL_acts 1082 = .ok (.iconst 1, 1) := by decide +kernel
theorem dL_acts_1083 : decode cL_acts 1083 = .ok (.goto 28, 3) := by decide +kernel
theorem dL_acts_1086 : decode cL_acts 1086 = .ok (.iconst 0, 1) := by decide +kernel
theorem dL_acts_1087 : decode cL_acts 1087 = .ok (.goto 24, 3) := by decide +kernel
theorem dL_acts_1090 : decode cL_acts 1090 = .ok (.aload_n 0, 1) := by decide +kernel
theorem dL_acts_1091 : decode cL_acts 1091 = .ok (.iconst 0, 1) := by decide +kernel
theorem dL_acts_1092 : decode cL_acts 1092 = .ok (.iload_n 2, 1) := by decide +kernel
theorem dL_acts_1093 : decode cL_acts 1093 = .ok (.iconst 2, 1) := by decide +kernel
theorem dL_acts_1094 : decode cL_acts 1094 = .ok (.ishr, 1) := by decide +kernel
theorem dL_acts_1095 : decode cL_acts 1095 = .ok (.bipush 101, 2) := by decide +kernel
theorem dL_acts_1097 : decode cL_acts 1097 = .ok (.invokestatic 29, 3) := by decide +kernel
theorem dL_acts_1100 : decode cL_acts 1100 = .ok (.invokevirtual 68, 3) := by decide +kernel
theorem dL_acts_1103 : decode cL_acts 1103 = .ok (.ifCond .lt 7, 3) := by decide +kernel
theorem dL_acts_1106 : decode cL_acts 1106 = .ok (.iconst 1, 1) := by decide +kernel
theorem dL_acts_1107 : decode cL_acts 1107 = .ok (.goto 4, 3) := by decide +kernel
theorem dL_acts_1110 : decode cL_acts 1110 = .ok (.iconst 0, 1) := by decide +kernel
theorem dL_acts_1111 : decode cL_acts 1111 = .ok (.ireturn, 1) := by decide +kernel
set_option maxRecDepth 20000 in
theorem ggL_ends_X2_count : GoodIn wsL_ends wsX2_count := goodIn_ca (goodIn_r _ [5, 6, 7, 4, 8, 9, 10, 11, 12, 13, 14, 15, 16, 17, 18, 19, 20, 21, 22, 23, 24, 25, 26, 27, 28, 29, 30, 31, 32, 33, 34, 35, 36, 37, 38, 39, 40, 41, 42, 43, 151, 152, 153, 154, 155, 156, 157, 158, 159, 160, 161, 162, 163, 164, 165, 166, 167, 168, 169, 170, 171, 172, 173, 174, 175] (by decide +kernel) (by decide +kernel)) (goodIn_sub (fun _ h => List.mem_cons_of_mem _ (List.mem_append_left _ (List.mem_append_left _ (List.mem_append_right _ h)))) (by decide +kernel))
set_option maxRecDepth 20000 in
theorem gL_ends_X2_count : GoodIn wsL_ends (wsV RL 13 RX2 yX2_count wsX2_count) := goodIn_app (goodIn_of _ (by decide +kernel)) ggL_ends_X2_count
set_option maxRecDepth 20000 in
theorem ggL_ends_X2_week : GoodIn wsL_ends wsX2_week := goodIn_ca (goodIn_r _ [47, 48, 49, 15, 50, 51, 52, 28, 53, 54, 55, 56, 57, 4, 58, 24, 59, 60, 61, 62, 63, 64, 65, 66, 67, 30, 68, 69, 35, 70, 71, 72, 73, 74, 75, 76, 77, 78, 79, 80, 81, 82, 83, 84, 85, 86, 87, 88, 89, 90, 91, 92, 93, 94, 95, 40, 41, 42, 43, 96, 97, 98, 99, 100, 101, 102, 103, 104, 105, 106, 107, 108, 109, 110, 111, 112, 113, 114, 151, 152, 153, 154, 155, 156, 157, 158, 159, 160, 161, 162, 163, 164, 165, 166, 167, 168, 169, 170, 171, 172, 173, 174, 175] (by decide +kernel) (by decide +kernel)) (goodIn_sub (fun _ h => List.mem_cons_of_mem _ (List.mem_append_left _ (List.mem_append_right _ h))) (by decide +kernel))
set_option maxRecDepth 20000 in
theorem gL_ends_X2_week : GoodIn wsL_ends (wsV RL 77 RX2 yX2_week wsX2_week) := goodIn_app (goodIn_of _ (by decide +kernel)) ggL_ends_X2_week
set_option maxRecDepth 20000 in
theorem ggL_ends_X2_memberOf : GoodIn wsL_ends wsX2_memberOf := goodIn_ca (goodIn_ca (goodIn_r _ [118, 15, 119, 120, 4, 121, 122, 123, 6, 7, 8, 9, 10, 124, 125, 126, 28, 127, 30, 68, 35, 70, 71, 72, 108, 109, 110, 111, 69, 128, 129, 130, 131, 132, 133, 134, 135, 104, 105, 106, 107, 136, 137, 138, 139, 140, 141, 86, 142, 40, 41, 42, 43, 151, 152, 153, 154, 155, 156, 157, 158, 159, 160, 161, 162, 163, 164, 165, 166, 167, 168, 169, 170, 171, 172, 173, 174, 175] (by decide +kernel) (by decide +kernel)) (goodIn_sub (fun _ h => List.mem_cons_of_mem _ (List.mem_append_right _ h)) (by decide +kernel))) (goodIn_sub (fun _ h => List.mem_cons_of_mem _ (List.mem_append_left _ (List.mem_append_left _ (List.mem_append_right _ h)))) (by decide +kernel))
set_option maxRecDepth 20000 in
theorem gL_ends_X2_memberOf : GoodIn wsL_ends (wsV RL 19 RX2 yX2_memberOf wsX2_memberOf) := goodIn_app (goodIn_of _ (by decide +kernel)) ggL_ends_X2_memberOf
set_option maxRecDepth 20000 in
theorem ggL_ends_X2_setting : GoodIn wsL_ends wsX2_setting := goodIn_ca (goodIn_r _ [146, 15, 147, 148, 149, 4, 150, 122, 123, 151, 152, 153, 154, 155, 156, 157, 158, 159, 160, 161, 162, 163, 164, 165, 166, 167, 168, 169, 170, 171, 172, 173, 174, 175] (by decide +kernel) (by decide +kernel)) (goodIn_sub (fun _ h => List.mem_cons_of_mem _ (List.mem_append_right _ h)) (by decide +kernel))
set_option maxRecDepth 20000 in
theorem gL_ends_X2_setting : GoodIn wsL_ends (wsV RL 26 RX2 yX2_setting wsX2_setting) := goodIn_app (goodIn_of _ (by decide +kernel)) ggL_ends_X2_setting
theorem dL_ends_0 : decode cL_ends 0 = .ok (.aload_n 0, 1) := by decide +kernel
theorem dL_ends_1 : decode cL_ends 1 = .ok (.bipush 7, 2) := by decide +kernel
theorem dL_ends_3 : decode cL_ends 3 = .ok (.invokevirtual 13, 3) := by decide +kernel
theorem dL_ends_6 : decode cL_ends 6 = .ok (.istore_n 1, 1) := by decide +kernel
theorem dL_ends_7 : decode cL_ends 7 = .ok (.aload_n 0, 1) := by decide +kernel
theorem dL_ends_8 : decode cL_ends 8 = .ok (.iconst 0, 1) := by decide +kernel
theorem dL_ends_9 : decode cL_ends 9 = .ok (.invokevirtual 13, 3) := by decide +kernel
theorem dL_ends_12 : decode cL_ends 12 = .ok (.istore_n 2, 1) := by decide +kernel
theorem dL_ends_13 : decode cL_ends 13 = .ok (.aload_n 0, 1) := by decide +kernel
theorem dL_ends_14 : decode cL_ends 14 = .ok (.iconst 1, 1) := by decide +kernel
theorem dL_ends_15 : decode cL_ends 15 = .ok (.invokevirtual 13, 3) := by decide +kernel
theorem dL_ends_18 : decode cL_ends 18 = .ok (.istore_n 3, 1) := by decide +kernel
theorem dL_ends_19 : decode cL_ends 19 = .ok (.aload_n 0, 1) := by decide +kernel
theorem dL_ends_20 : decode cL_ends 20 = .ok (.iconst 2, 1) := by decide +kernel
theorem dL_ends_21 : decode cL_ends 21 = .ok (.invokevirtual 13, 3) := by decide +kernel
theorem dL_ends_24 : decode cL_ends 24 = .ok (.istore 4, 2) := by decide +kernel
theorem dL_ends_26 : decode cL_ends 26 = .ok (.aload_n 0, 1) := by decide +kernel
theorem dL_ends_27 : decode cL_ends 27 = .ok (.iconst 3, 1) := by decide +kernel
theorem dL_ends_28 : decode cL_ends 28 = .ok (.invokevirtual 13, 3) := by decide +kernel
theorem dL_ends_31 : decode cL_ends 31 = .ok (.istore 5, 2) := by decide +kernel
theorem dL_ends_33 : decode cL_ends 33 = .ok (.aload_n 0, 1) := by decide +kernel
theorem dL_ends_34 : decode cL_ends 34 = .ok (.bipush 6, 2) := by decide +kernel
theorem dL_ends_36 : decode cL_ends 36 = .ok (.invokevirtual 13, 3) := by decide +kernel
theorem dL_ends_39 : decode cL_ends 39 = .ok (.istore 6, 2) := by decide +kernel
theorem dL_ends_41 : decode cL_ends 41 = .ok (.aload_n 0, 1) := by decide +kernel
theorem dL_ends_42 : decode cL_ends 42 = .ok (.invokevirtual 77, 3) := by decide +kernel
theorem dL_ends_45 : decode cL_ends 45 = .ok (.istore 7, 2) := by decide +kernel
theorem dL_ends_47 : decode cL_ends 47 = .ok (.aload_n 0, 1) := by decide +kernel
theorem dL_ends_48 : decode cL_ends 48 = .ok (.bipush 7, 2) := by decide +kernel
theorem dL_ends_50 : decode cL_ends 50 = .ok (.invokevirtual 13, 3) := by decide +kernel
theorem dL_ends_53 : decode cL_ends 53 = .ok (.iload_n 1, 1) := by decide +kernel
theorem dL_ends_54 : decode cL_ends 54 = .ok (.iconst 1, 1) := by decide +kernel
theorem dL_ends_55 : decode cL_ends 55 = .ok (.iadd, 1) := by decide +kernel
theorem dL_ends_56 : decode cL_ends 56 = .ok (.if_icmp .ne 73, 3) := by decide +kernel
theorem dL_ends_59 : decode cL_ends 59 = .ok (.aload_n 0, 1) := by decide +kernel
theorem dL_ends_60 : decode cL_ends 60 = .ok (.iconst 0, 1) := by decide +kernel
theorem dL_ends_61 : decode cL_ends 61 = .ok (.invokevirtual 13, 3) := by decide +kernel
theorem dL_ends_64 : decode cL_ends 64 = .ok (.iload_n 2, 1) := by decide +kernel
theorem dL_ends_65 : decode cL_ends 65 = .ok (.if_icmp .ne 64, 3) := by decide +kernel
theorem dL_ends_68 : decode cL_ends 68 = .ok (.aload_n 0, 1) := by decide +kernel
theorem dL_ends_69 : decode cL_ends 69 = .ok (.iconst 1, 1) := by decide +kernel
theorem dL_ends_70 : decode cL_ends 70 = .ok (.invokevirtual 13, 3) := by decide +kernel
theorem dL_ends_73 : decode cL_ends 73 = .ok (.iload_n 3, 1) := by decide +kernel
theorem dL_ends_74 : decode cL_ends 74 = .ok (.if_icmp .ne 55, 3) := by decide +kernel
theorem dL_ends_77 : decode cL_ends 77 = .ok (.iload 4, 2) := by decide +kernel
theorem dL_ends_79 : decode cL_ends 79 = .ok (.aload_n 0, 1) := by decide +kernel
theorem dL_ends_80 : decode cL_ends 80 = .ok (.iconst 2, 1) := by decide +kernel
theorem dL_ends_81 : decode cL_ends 81 = .ok (.invokevirtual 13, 3) := by decide +kernel
theorem dL_ends_84 : decode cL_ends 84 = .ok (.isub, 1) := by decide +kernel
theorem dL_ends_85 : decode cL_ends 85 = .ok (.iload 5, 2) := by decide +kernel
theorem dL_ends_87 : decode cL_ends 87 = .ok (.aload_n 0, 1) := by decide +kernel
theorem dL_ends_88 : decode cL_ends 88 = .ok (.iconst 3, 1) := by decide +kernel
theorem dL_ends_89 : decode cL_ends 89 = .ok (.invokevirtual 13, 3) := by decide +kernel
theorem dL_ends_92 : decode cL_ends 92 = .ok (.isub, 1) := by decide +kernel
theorem dL_ends_93 : decode cL_ends 93 = .ok (.if_icmp .ne 36, 3) := by decide +kernel
theorem dL_ends_96 : decode cL_ends 96 = .ok (.aload_n 0, 1) := by decide +kernel
theorem dL_ends_97 : decode cL_ends 97 = .ok (.bipush 6, 2) := by decide +kernel
theorem dL_ends_99 : decode cL_ends 99 = .ok (.invokevirtual 13, 3) := by decide +kernel
theorem dL_ends_102 : decode cL_ends 102 = .ok (.iload 6, 2) := by decide +kernel
theorem dL_ends_104 : decode cL_ends 104 = .ok (.iload 7, 2) := by decide +kernel
theorem dL_ends_106 : decode cL_ends 106 = .ok (.iadd, 1) := by decide +kernel
theorem dL_ends_107 : decode cL_ends 107 = .ok (.if_icmp .ne 22, 3) := by decide +kernel
theorem dL_ends_110 : decode cL_ends 110 = .ok (.iload 7, 2) := by decide +kernel
theorem dL_ends_112 : decode cL_ends 112 = .ok (.ifCond .gt 13, 3) := by decide +kernel
theorem dL_ends_115 : decode cL_ends 115 = .ok (.aload_n 0, 1) := by decide +kernel
theorem dL_ends_116 : decode cL_ends 116 = .ok (.iconst 3, 1) := by decide +kernel
theorem dL_ends_117 : decode cL_ends 117 = .ok (.invokevirtual 13, 3) := by decide +kernel
theorem dL_ends_120 : decode cL_ends 120 = .ok (.iload 5, 2) := by decide +kernel
theorem dL_ends_122 : decode cL_ends 122 = .ok (.if_icmp .ne 7, 3) := by decide +kernel
theorem dL_ends_125 : decode cL_ends 125 = .ok (.iconst 1, 1) := by decide +kernel
theorem dL_ends_126 : decode cL_ends 126 = .ok (.goto 4, 3) := by decide +kernel
theorem dL_ends_129 : decode cL_ends 129 = .ok (.iconst 0, 1) := by decide +kernel
theorem dL_ends_130 : decode cL_ends 130 = .ok (.istore 8, 2) := by decide +kernel
theorem dL_ends_132 : decode cL_ends 132 = .ok (.iconst 0, 1) := by decide +kernel
theorem dL_ends_133 : decode cL_ends 133 = .ok (.istore 9, 2) := by decide +kernel
theorem dL_ends_135 : decode cL_ends 135 = .ok (.iload 9, 2) := by decide +kernel
theorem dL_ends_137 : decode cL_ends 137 = .ok (.bipush 6, 2) := by decide +kernel
theorem dL_ends_139 : decode cL_ends 139 = .ok (.if_icmp .ge 59, 3) := by decide +kernel
theorem dL_ends_142 : decode cL_ends 142 = .ok (.iload 8, 2) := by decide +kernel
theorem dL_ends_144 : decode cL_ends 144 = .ok (.ifCond .eq 45, 3) := by decide +kernel
theorem dL_ends_147 : decode cL_ends 147 = .ok (.aload_n 0, 1) := by decide +kernel
theorem dL_ends_148 : decode cL_ends 148 = .ok (.iload 9, 2) := by decide +kernel
theorem dL_ends_150 : decode cL_ends 150 = .ok (.bipush 6, 2) := by decide +kernel
theorem dL_ends_152 : decode cL_ends 152 = .ok (.invokevirtual 19, 3) := by decide +kernel
theorem dL_ends_155 : decode cL_ends 155 = .ok (.ifCond .eq 30, 3) := by decide +kernel
theorem dL_ends_158 : decode cL_ends 158 = .ok (.aload_n 0, 1) := by decide +kernel
theorem dL_ends_159 : decode cL_ends 159 = .ok (.iload 9, 2) := by decide +kernel
theorem dL_ends_161 : decode cL_ends 161 = .ok (.bipush 8, 2) := by decide +kernel
theorem dL_ends_163 : decode cL_ends 163 = .ok (.invokevirtual 19, 3) := by decide +kernel
theorem dL_ends_166 : decode cL_ends 166 = .ok (.ifCond .ne 23, 3) := by decide +kernel
theorem dL_ends_169 : decode cL_ends 169 = .ok (.aload_n 0, 1) := by decide +kernel
theorem dL_ends_170 : decode cL_ends 170 = .ok (.iload 9, 2) := by decide +kernel
theorem dL_ends_172 : decode cL_ends 172 = .ok (.bipush 9, 2) := by decide +kernel
theorem dL_ends_174 : decode cL_ends 174 = .ok (.invokevirtual 19, 3) := by decide +kernel
theorem dL_ends_177 : decode cL_ends 177 = .ok (.aload_n 0, 1) := by decide +kernel
theorem dL_ends_178 : decode cL_ends 178 = .ok (.iconst 1, 1) := by decide +kernel
theorem dL_ends_179 : decode cL_ends 179 = .ok (.invokevirtual 26, 3) := by decide +kernel
theorem dL_ends_182 : decode cL_ends 182 = .ok (.if_icmp .ge 7, 3) := by decide +kernel
theorem dL_ends_185 : decode cL_ends 185 = .ok (.iconst 1, 1) := by decide +kernel
theorem dL_ends_186 : decode cL_ends 186 = .ok (.goto 4, 3) := by decide +kernel
theorem dL_ends_189 : decode cL_ends 189 = .ok (.iconst 0, 1) := by decide +kernel
theorem dL_ends_190 : decode cL_ends 190 = .ok (.istore 8, 2) := by decide +kernel
theorem dL_ends_192 : decode cL_ends 192 = .ok (.iinc 9 1, 3) := by decide +kernel
theorem dL_ends_195 : decode cL_ends 195 = .ok (.goto (-60), 3) := by decide +kernel
theorem dL_ends_198 : decode cL_ends 198 = .ok (.iload 8, 2) := by decide +kernel
theorem dL_ends_200 : decode cL_ends 200 = .ok (.ireturn, 1) := by decide +kernel
set_option maxRecDepth 20000 in
theorem ggL_divides_X2_count : GoodIn wsL_divides wsX2_count := goodIn_ca (goodIn_r _ [5, 6, 7, 4, 8, 9, 10, 11, 12, 13, 14, 15, 16, 17, 18, 19, 20, 21, 22, 23, 24, 25, 26, 27, 28, 29, 30, 31, 32, 33, 34, 35, 36, 37, 38, 39, 40, 41, 42, 43, 140, 141, 142, 143, 144, 145, 146, 147, 148, 149, 150, 151, 152, 153, 154, 155, 156, 157, 158, 159, 160, 161, 162, 163, 164] (by decide +kernel) (by decide +kernel)) (goodIn_sub (fun _ h => List.mem_cons_of_mem _ (List.mem_append_left _ (List.mem_append_right _ h))) (by decide +kernel))
set_option maxRecDepth 20000 in
theorem gL_divides_X2_count : GoodIn wsL_divides (wsV RL 13 RX2 yX2_count wsX2_count) := goodIn_app (goodIn_of _ (by decide +kernel)) ggL_divides_X2_count
set_option maxRecDepth 20000 in
theorem ggL_divides_X2_ifDivided : GoodIn wsL_divides wsX2_ifDivided := goodIn_ca (goodIn_r _ [47, 15, 48, 49, 4, 50, 51, 52, 53, 54, 55, 28, 56, 57, 58, 59, 60, 61, 62, 140, 141, 142, 143, 144, 145, 146, 147, 148, 149, 150, 151, 152, 153, 154, 155, 156, 157, 158, 159, 160, 161, 162, 163, 164] (by decide +kernel) (by decide +kernel)) (goodIn_sub (fun _ h => List.mem_cons_of_mem _ (List.mem_append_right _ h)) (by decide +kernel))
set_option maxRecDepth 20000 in
theorem gL_divides_X2_ifDivided : GoodIn wsL_divides (wsV RL 81 RX2 yX2_ifDivided wsX2_ifDivided) := goodIn_app (goodIn_of _ (by decide +kernel)) ggL_divides_X2_ifDivided
set_option maxRecDepth 20000 in
theorem ggL_divides_X2_memberOf : GoodIn wsL_divides wsX2_memberOf := goodIn_ca (goodIn_ca (goodIn_r _ [66, 15, 48, 49, 4, 50, 51, 52, 6, 7, 8, 9, 10, 67, 68, 69, 28, 70, 30, 57, 35, 71, 72, 73, 74, 75, 76, 77, 78, 79, 80, 81, 82, 83, 84, 85, 86, 87, 88, 89, 90, 91, 92, 93, 94, 95, 96, 97, 98, 40, 41, 42, 43, 140, 141, 142, 143, 144, 145, 146, 147, 148, 149, 150, 151, 152, 153, 154, 155, 156, 157, 158, 159, 160, 161, 162, 163, 164] (by decide +kernel) (by decide +kernel)) (goodIn_sub (fun _ h => List.mem_cons_of_mem _ (List.mem_append_right _ h)) (by decide +kernel))) (goodIn_sub (fun _ h => List.mem_cons_of_mem _ (List.mem_append_left _ (List.mem_append_right _ h))) (by decide +kernel))
set_option maxRecDepth 20000 in
theorem gL_divides_X2_memberOf : GoodIn wsL_divides (wsV RL 19 RX2 yX2_memberOf wsX2_memberOf) := goodIn_app (goodIn_of _ (by decide +kernel)) ggL_divides_X2_memberOf
set_option maxRecDepth 20000 in
theorem ggL_divides_X2_dividend : GoodIn wsL_divides wsX2_dividend := goodIn_r _ [102, 15, 103, 104, 105, 4, 106, 24, 107, 108, 109, 110, 111, 112, 113, 114, 28, 115, 30, 57, 78, 35, 71, 72, 73, 116, 117, 62, 118, 119, 120, 121, 122, 123, 124, 125, 126, 127, 128, 97, 129, 130, 131, 132, 133, 134, 135, 136, 137, 138, 54, 55, 56, 139, 59, 60, 61, 140, 141, 142, 143, 144, 145, 146, 147, 148, 149, 150, 151, 152, 153, 154, 155, 156, 157, 158, 159, 160, 161, 162, 163, 164] (by decide +kernel) (by decide +kernel)
set_option maxRecDepth 20000 in
theorem gL_divides_X2_dividend : GoodIn wsL_divides (wsV RL 84 RX2 yX2_dividend wsX2_dividend) := goodIn_app (goodIn_of _ (by decide +kernel)) ggL_divides_X2_dividend
theorem dL_divides_0 : decode cL_divides 0 = .ok (.iconst 0, 1) := by decide +kernel
theorem dL_divides_1 : decode cL_divides 1 = .ok (.istore_n 1, 1) := by decide +kernel
theorem dL_divides_2 : decode cL_divides 2 = .ok (.iconst 0, 1) := by decide +kernel
theorem dL_divides_3 : decode cL_divides 3 = .ok (.istore_n 2, 1) := by decide +kernel
theorem dL_divides_4 : decode cL_divides 4 = .ok (.aload_n 0, 1) := by decide +kernel
theorem dL_divides_5 : decode cL_divides 5 = .ok (.iconst 1, 1) := by decide +kernel
theorem dL_divides_6 : decode cL_divides 6 = .ok (.invokevirtual 13, 3) := by decide +kernel
theorem dL_divides_9 : decode cL_divides 9 = .ok (.istore_n 3, 1) := by decide +kernel
theorem dL_divides_10 : decode cL_divides 10 = .ok (.aload_n 0, 1) := by decide +kernel
theorem dL_divides_11 : decode cL_divides 11 = .ok (.iconst 2, 1) := by decide +kernel
theorem dL_divides_12 : decode cL_divides 12 = .ok (.invokevirtual 13, 3) := by decide +kernel
theorem dL_divides_15 : decode cL_divides 15 = .ok (.istore 4, 2) := by decide +kernel
theorem dL_divides_17 : decode cL_divides 17 = .ok (.aload_n 0, 1) := by decide +kernel
theorem dL_divides_18 : decode cL_divides 18 = .ok (.bipush 9, 2) := by decide +kernel
theorem dL_divides_20 : decode cL_divides 20 = .ok (.invokevirtual 13, 3) := by decide +kernel
theorem dL_divides_23 : decode cL_divides 23 = .ok (.istore 5, 2) := by decide +kernel
theorem dL_divides_25 : decode cL_divides 25 = .ok (.iconst 0, 1) := by decide +kernel
theorem dL_divides_26 : decode cL_divides 26 = .ok (.istore 6, 2) := by decide +kernel
theorem dL_divides_28 : decode cL_divides 28 = .ok (.iload 6, 2) := by decide +kernel
theorem dL_divides_30 : decode cL_divides 30 = .ok (.bipush 6, 2) := by decide +kernel
theorem dL_divides_32 : decode cL_divides 32 = .ok (.if_icmp .ge 28, 3) := by decide +kernel
theorem dL_divides_35 : decode cL_divides 35 = .ok (.iload_n 1, 1) := by decide +kernel
theorem dL_divides_36 : decode cL_divides 36 = .ok (.aload_n 0, 1) := by decide +kernel
theorem dL_divides_37 : decode cL_divides 37 = .ok (.iload 6, 2) := by decide +kernel
theorem dL_divides_39 : decode cL_divides 39 = .ok (.invokevirtual 81, 3) := by decide +kernel
theorem dL_divides_42 : decode cL_divides 42 = .ok (.iadd, 1) := by decide +kernel
theorem dL_divides_43 : decode cL_divides 43 = .ok (.istore_n 1, 1) := by decide +kernel
theorem dL_divides_44 : decode cL_divides 44 = .ok (.iload_n 2, 1) := by decide +kernel
theorem dL_divides_45 : decode cL_divides 45 = .ok (.aload_n 0, 1) := by decide +kernel
theorem dL_divides_46 : decode cL_divides 46 = .ok (.iload 6, 2) := by decide +kernel
theorem dL_divides_48 : decode cL_divides 48 = .ok (.iconst 5, 1) := by decide +kernel
theorem dL_divides_49 : decode cL_divides 49 = .ok (.invokevirtual 19, 3) := by decide +kernel
theorem dL_divides_52 : decode cL_divides 52 = .ok (.ior, 1) := by decide +kernel
theorem dL_divides_53 : decode cL_divides 53 = .ok (.istore_n 2, 1) := by decide +kernel
theorem dL_divides_54 : decode cL_divides 54 = .ok (.iinc 6 1, 3) := by decide +kernel
theorem dL_divides_57 : decode cL_divides 57 = .ok (.goto (-29), 3) := by decide +kernel
theorem dL_divides_60 : decode cL_divides 60 = .ok (.aload_n 0, 1) := by decide +kernel
theorem dL_divides_61 : decode cL_divides 61 = .ok (.invokevirtual 84, 3) := by decide +kernel
theorem dL_divides_64 : decode cL_divides 64 = .ok (.istore 6, 2) := by decide +kernel
theorem dL_divides_66 : decode cL_divides 66 = .ok (.iload_n 2, 1) := by decide +kernel
theorem dL_divides_67 : decode cL_divides 67 = .ok (.ifCond .ne 34, 3) := by decide +kernel
theorem dL_divides_70 : decode cL_divides 70 = .ok (.iload 6, 2) := by decide +kernel
theorem dL_divides_72 : decode cL_divides 72 = .ok (.iconst (-1), 1) := by decide +kernel
theorem dL_divides_73 : decode cL_divides 73 = .ok (.if_icmp .ne 24, 3) := by decide +kernel
theorem dL_divides_76 : decode cL_divides 76 = .ok (.iload_n 1, 1) := by decide +kernel
theorem dL_divides_77 : decode cL_divides 77 = .ok (.ifCond .ne 20, 3) := by decide +kernel
theorem dL_divides_80 : decode cL_divides 80 = .ok (.aload_n 0, 1) := by decide +kernel
theorem dL_divides_81 : decode cL_divides 81 = .ok (.bipush 9, 2) := by decide +kernel
theorem dL_divides_83 : decode cL_divides 83 = .ok (.invokevirtual 13, 3) := by decide +kernel
theorem dL_divides_86 : decode cL_divides 86 = .ok (.iload 5, 2) := by decide +kernel
theorem dL_divides_88 : decode cL_divides 88 = .ok (.iconst 1, 1) := by decide +kernel
theorem dL_divides_89 : decode cL_divides 89 = .ok (.iadd, 1) := by decide +kernel
theorem dL_divides_90 : decode cL_divides 90 = .ok (.if_icmp .ne 7, 3) := by decide +kernel
theorem dL_divides_93 : decode cL_divides 93 = .ok (.iconst 1, 1) := by decide +kernel
theorem dL_divides_94 : decode cL_divides 94 = .ok (.goto 55, 3) := by decide +kernel
theorem dL_divides_97 : decode cL_divides 97 = .ok (.iconst 0, 1) := by decide +kernel
theorem dL_divides_98 : decode cL_divides 98 = .ok (.goto 51, 3) := by decide +kernel
theorem dL_divides_101 : decode cL_divides 101 = .ok (.iload 6, 2) := by decide +kernel
theorem dL_divides_103 : decode cL_divides 103 = .ok (.iload_n 1, 1) := by decide +kernel
theorem dL_divides_104 : decode cL_divides 104 = .ok (.if_icmp .ne 44, 3) := by decide +kernel
theorem dL_divides_107 : decode cL_divides 107 = .ok (.iload_n 1, 1) := by decide +kernel
theorem dL_divides_108 : decode cL_divides 108 = .ok (.iload_n 3, 1) := by decide +kernel
theorem dL_divides_109 : decode cL_divides 109 = .ok (.if_icmp .gt 39, 3) := by decide +kernel
theorem dL_divides_112 : decode cL_divides 112 = .ok (.aload_n 0, 1) := by decide +kernel
theorem dL_divides_113 : decode cL_divides 113 = .ok (.iconst 1, 1) := by decide +kernel
theorem dL_divides_114 : decode cL_divides 114 = .ok (.invokevirtual 13, 3) := by decide +kernel
theorem dL_divides_117 : decode cL_divides 117 = .ok (.iload_n 3, 1) := by decide +kernel
theorem dL_divides_118 : decode cL_divides 118 = .ok (.iload_n 1, 1) := by decide +kernel
theorem dL_divides_119 : decode cL_divides 119 = .ok (.isub, 1) := by decide +kernel
theorem dL_divides_120 : decode cL_divides 120 = .ok (.if_icmp .ne 28, 3) := by decide +kernel
theorem dL_divides_123 : decode cL_divides 123 = .ok (.aload_n 0, 1) := by decide +kernel
theorem dL_divides_124 : decode cL_divides 124 = .ok (.iconst 2, 1) := by decide +kernel
theorem dL_divides_125 : decode cL_divides 125 = .ok (.invokevirtual 13, 3) := by decide +kernel
theorem dL_divides_128 : decode cL_divides 128 = .ok (.iload 4, 2) := by decide +kernel
theorem dL_divides_130 : decode cL_divides 130 = .ok (.iload_n 1, 1) := by decide +kernel
theorem dL_divides_131 : decode cL_divides 131 = .ok (.iadd, 1) := by decide +kernel
theorem dL_divides_132 : decode cL_divides 132 = .ok (.if_icmp .ne 16, 3) := by decide +kernel
theorem dL_divides_135 : decode cL_divides 135 = .ok (.aload_n 0, 1) := by decide +kernel
theorem dL_divides_136 : decode cL_divides 136 = .ok (.iconst 0, 1) := by decide +kernel
theorem dL_divides_137 : decode cL_divides 137 = .ok (.iconst 5, 1) := by decide +kernel
theorem dL_divides_138 : decode cL_divides 138 = .ok (.invokevirtual 19, 3) := by decide +kernel
theorem dL_divides_141 : decode cL_divides 141 = .ok (.ifCond .ne 7, 3) := by decide +kernel
theorem dL_divides_144 : decode cL_divides 144 = .ok (.iconst 1, 1) := by decide +kernel
theorem dL_divides_145 : decode cL_divides 145 = .ok (.goto 4, 3) := by decide +kernel
theorem dL_divides_148 : decode cL_divides 148 = .ok (.iconst 0, 1) := by decide +kernel
theorem dL_divides_149 : decode cL_divides 149 = .ok (.ireturn, 1) := by decide +kernel
set_option maxRecDepth 20000 in
theorem ggL_holds_X2_count : GoodIn wsL_holds wsX2_count := goodIn_ca (goodIn_r _ [6, 7, 8, 5, 9, 10, 11, 12, 13, 14, 15, 16, 17, 18, 19, 20, 21, 22, 23, 24, 25, 26, 27, 28, 29, 30, 31, 32, 33, 34, 35, 36, 37, 38, 39, 40, 41, 42, 43, 44, 128, 129, 130, 131, 132, 133, 134, 135, 136, 137, 138, 139, 140, 141, 142, 143, 144, 145, 146, 147, 148, 149, 150, 151, 152] (by decide +kernel) (by decide +kernel)) (goodIn_sub (fun _ h => List.mem_cons_of_mem _ (List.mem_append_left _ (List.mem_append_right _ h))) (by decide +kernel))
set_option maxRecDepth 20000 in
theorem gL_holds_X2_count : GoodIn wsL_holds (wsV RL 13 RX2 yX2_count wsX2_count) := goodIn_app (goodIn_of _ (by decide +kernel)) ggL_holds_X2_count
set_option maxRecDepth 20000 in
theorem ggL_holds_X2_lentShare : GoodIn wsL_holds wsX2_lentShare := goodIn_r _ [48, 16, 49, 50, 51, 29, 52, 53, 27, 28, 30, 31, 54, 33, 34, 35, 36, 128, 129, 130, 131, 132, 133, 134, 135, 136, 137, 138, 139, 140, 141, 142, 143, 144, 145, 146, 147, 148, 149, 150, 151, 152] (by decide +kernel) (by decide +kernel)
set_option maxRecDepth 20000 in
theorem gL_holds_X2_lentShare : GoodIn wsL_holds (wsV RL 87 RX2 yX2_lentShare wsX2_lentShare) := goodIn_app (goodIn_of _ (by decide +kernel)) ggL_holds_X2_lentShare
set_option maxRecDepth 20000 in
theorem ggL_holds_X2_pledged : GoodIn wsL_holds wsX2_pledged := goodIn_ca (goodIn_r _ [58, 16, 59, 60, 61, 5, 62, 63, 64, 65, 66, 29, 67, 128, 129, 130, 131, 132, 133, 134, 135, 136, 137, 138, 139, 140, 141, 142, 143, 144, 145, 146, 147, 148, 149, 150, 151, 152] (by decide +kernel) (by decide +kernel)) (goodIn_sub (fun _ h => List.mem_cons_of_mem _ (List.mem_append_right _ h)) (by decide +kernel))
set_option maxRecDepth 20000 in
theorem gL_holds_X2_pledged : GoodIn wsL_holds (wsV RL 23 RX2 yX2_pledged wsX2_pledged) := goodIn_app (goodIn_of _ (by decide +kernel)) ggL_holds_X2_pledged
set_option maxRecDepth 20000 in
theorem ggL_holds_X2_memberOf : GoodIn wsL_holds wsX2_memberOf := goodIn_ca (goodIn_ca (goodIn_r _ [71, 16, 60, 61, 5, 62, 63, 64, 7, 8, 9, 10, 11, 72, 73, 74, 29, 75, 31, 76, 36, 77, 78, 79, 80, 81, 82, 83, 84, 85, 86, 87, 88, 89, 90, 91, 92, 93, 94, 95, 96, 97, 98, 99, 100, 101, 102, 103, 104, 41, 42, 43, 44, 128, 129, 130, 131, 132, 133, 134, 135, 136, 137, 138, 139, 140, 141, 142, 143, 144, 145, 146, 147, 148, 149, 150, 151, 152] (by decide +kernel) (by decide +kernel)) (goodIn_sub (fun _ h => List.mem_cons_of_mem _ (List.mem_append_right _ h)) (by decide +kernel))) (goodIn_sub (fun _ h => List.mem_cons_of_mem _ (List.mem_append_left _ (List.mem_append_right _ h))) (by decide +kernel))
set_option maxRecDepth 20000 in
theorem gL_holds_X2_memberOf : GoodIn wsL_holds (wsV RL 19 RX2 yX2_memberOf wsX2_memberOf) := goodIn_app (goodIn_of _ (by decide +kernel)) ggL_holds_X2_memberOf
set_option maxRecDepth 20000 in
theorem ggL_holds_X2_weeksLeft : GoodIn wsL_holds wsX2_weeksLeft := goodIn_ca (goodIn_ca (goodIn_r _ [108, 16, 60, 61, 5, 62, 63, 64, 7, 8, 9, 10, 11, 109, 110, 111, 29, 112, 36, 77, 113, 114, 103, 115, 116, 117, 118, 119, 41, 42, 43, 44, 128, 129, 130, 131, 132, 133, 134, 135, 136, 137, 138, 139, 140, 141, 142, 143, 144, 145, 146, 147, 148, 149, 150, 151, 152] (by decide +kernel) (by decide +kernel)) (goodIn_sub (fun _ h => List.mem_cons_of_mem _ (List.mem_append_right _ h)) (by decide +kernel))) (goodIn_sub (fun _ h => List.mem_cons_of_mem _ (List.mem_append_left _ (List.mem_append_right _ h))) (by decide +kernel))
set_option maxRecDepth 20000 in
theorem gL_holds_X2_weeksLeft : GoodIn wsL_holds (wsV RL 54 RX2 yX2_weeksLeft wsX2_weeksLeft) := goodIn_app (goodIn_of _ (by decide +kernel)) ggL_holds_X2_weeksLeft
set_option maxRecDepth 20000 in
theorem ggL_holds_X2_riskiest : GoodIn wsL_holds wsX2_riskiest := goodIn_r _ [123, 16, 124, 125, 126, 29, 127, 36, 93, 94, 95, 96, 31, 80, 81, 82, 83, 84, 41, 42, 43, 44, 128, 129, 130, 131, 132, 133, 134, 135, 136, 137, 138, 139, 140, 141, 142, 143, 144, 145, 146, 147, 148, 149, 150, 151, 152] (by decide +kernel) (by decide +kernel)
set_option maxRecDepth 20000 in
theorem gL_holds_X2_riskiest : GoodIn wsL_holds (wsV RL 92 RX2 yX2_riskiest wsX2_riskiest) := goodIn_app (goodIn_of _ (by decide +kernel)) ggL_holds_X2_riskiest
theorem dL_holds_0 : decode cL_holds 0 = .ok (.iconst 0, 1) := by decide +kernel
theorem dL_holds_1 : decode cL_holds 1 = .ok (.istore_n 1, 1) := by decide +kernel
theorem dL_holds_2 : decode cL_holds 2 = .ok (.iconst 0, 1) := by decide +kernel
theorem dL_holds_3 : decode cL_holds 3 = .ok (.istore_n 2, 1) := by decide +kernel
theorem dL_holds_4 : decode cL_holds 4 = .ok (.iconst 0, 1) := by decide +kernel
theorem dL_holds_5 : decode cL_holds 5 = .ok (.istore_n 3, 1) := by decide +kernel
theorem dL_holds_6 : decode cL_holds 6 = .ok (.iconst 0, 1) := by decide +kernel
theorem dL_holds_7 : decode cL_holds 7 = .ok (.istore 4, 2) := by decide +kernel
theorem dL_holds_9 : decode cL_holds 9 = .ok (.aload_n 0, 1) := by decide +kernel
theorem dL_holds_10 : decode cL_holds 10 = .ok (.iconst 0, 1) := by decide +kernel
theorem dL_holds_11 : decode cL_holds 11 = .ok (.invokevirtual 13, 3) := by decide +kernel
theorem dL_holds_14 : decode cL_holds 14 = .ok (.aload_n 0, 1) := by decide +kernel
theorem dL_holds_15 : decode cL_holds 15 = .ok (.iconst 3, 1) := by decide +kernel
theorem dL_holds_16 : decode cL_holds 16 = .ok (.invokevirtual 13, 3) := by decide +kernel
theorem dL_holds_19 : decode cL_holds 19 = .ok (.iadd, 1) := by decide +kernel
theorem dL_holds_20 : decode cL_holds 20 = .ok (.aload_n 0, 1) := by decide +kernel
theorem dL_holds_21 : decode cL_holds 21 = .ok (.iconst 2, 1) := by decide +kernel
theorem dL_holds_22 : decode cL_holds 22 = .ok (.invokevirtual 13, 3) := by decide +kernel
theorem dL_holds_25 : decode cL_holds 25 = .ok (.aload_n 0, 1) := by decide +kernel
theorem dL_holds_26 : decode cL_holds 26 = .ok (.iconst 1, 1) := by decide +kernel
theorem dL_holds_27 : decode cL_holds 27 = .ok (.invokevirtual 13, 3) := by decide +kernel
theorem dL_holds_30 : decode cL_holds 30 = .ok (.iadd, 1) := by decide +kernel
theorem dL_holds_31 : decode cL_holds 31 = .ok (.if_icmp .ne 16, 3) := by decide +kernel
theorem dL_holds_34 : decode cL_holds 34 = .ok (.aload_n 0, 1) := by decide +kernel
theorem dL_holds_35 : decode cL_holds 35 = .ok (.invokevirtual 87, 3) := by decide +kernel
theorem dL_holds_38 : decode cL_holds 38 = .ok (.dconst 0, 1) := by decide +kernel
theorem dL_holds_39 : decode cL_holds 39 = .ok (.dcmp .l, 1) := by decide +kernel
theorem dL_holds_40 : decode cL_holds 40 = .ok (.ifCond .lt 7, 3) := by decide +kernel
theorem dL_holds_43 : decode cL_holds 43 = .ok (.iconst 1, 1) := by decide +kernel
theorem dL_holds_44 : decode cL_holds 44 = .ok (.goto 4, 3) := by decide +kernel
theorem dL_holds_47 : decode cL_holds 47 = .ok (.iconst 0, 1) := by decide +kernel
theorem dL_holds_48 : decode cL_holds 48 = .ok (.istore 5, 2) := by decide +kernel
theorem dL_holds_50 : decode cL_holds 50 = .ok (.iconst 0, 1) := by decide +kernel
theorem dL_holds_51 : decode cL_holds 51 = .ok (.istore 6, 2) := by decide +kernel
theorem dL_holds_53 : decode cL_holds 53 = .ok (.iload 6, 2) := by decide +kernel
theorem dL_holds_55 : decode cL_holds 55 = .ok (.bipush 6, 2) := by decide +kernel
theorem dL_holds_57 : decode cL_holds 57 = .ok (.if_icmp .ge 371, 3) := by decide +kernel
theorem dL_holds_60 : decode cL_holds 60 = .ok (.iconst 0, 1) := by decide +kernel
theorem dL_holds_61 : decode cL_holds 61 = .ok (.istore 7, 2) := by decide +kernel
theorem dL_holds_63 : decode cL_holds 63 = .ok (.iconst 0, 1) := by decide +kernel
theorem dL_holds_64 : decode cL_holds 64 = .ok (.istore 8, 2) := by decide +kernel
theorem dL_holds_66 : decode cL_holds 66 = .ok (.iconst 0, 1) := by decide +kernel
theorem dL_holds_67 : decode cL_holds 67 = .ok (.istore 9, 2) := by decide +kernel
theorem dL_holds_69 : decode cL_holds 69 = .ok (.iload 9, 2) := by decide +kernel
theorem dL_holds_71 : decode cL_holds 71 = .ok (.bipush 6, 2) := by decide +kernel
theorem dL_holds_73 : decode cL_holds 73 = .ok (.if_icmp .ge 76, 3) := by decide +kernel
theorem dL_holds_76 : decode cL_holds 76 = .ok (.iload 7, 2) := by decide +kernel
theorem dL_holds_78 : decode cL_holds 78 = .ok (.aload_n 0, 1) := by decide +kernel
theorem dL_holds_79 : decode cL_holds 79 = .ok (.iload 6, 2) := by decide +kernel
theorem dL_holds_81 : decode cL_holds 81 = .ok (.iload 9, 2) := by decide +kernel
theorem dL_holds_83 : decode cL_holds 83 = .ok (.invokevirtual 23, 3) := by decide +kernel
theorem dL_holds_86 : decode cL_holds 86 = .ok (.iadd, 1) := by decide +kernel
theorem dL_holds_87 : decode cL_holds 87 = .ok (.istore 7, 2) := by decide +kernel
theorem dL_holds_89 : decode cL_holds 89 = .ok (.iload 8, 2) := by decide +kernel
theorem dL_holds_91 : decode cL_holds 91 = .ok (.aload_n 0, 1) := by decide +kernel
theorem dL_holds_92 : decode cL_holds 92 = .ok (.iload 9, 2) := by decide +kernel
theorem dL_holds_94 : decode cL_holds 94 = .ok (.iload 6, 2) := by decide +kernel
theorem dL_holds_96 : decode cL_holds 96 = .ok (.invokevirtual 23, 3) := by decide +kernel
theorem dL_holds_99 : decode cL_holds 99 = .ok (.iadd, 1) := by decide +kernel
theorem dL_holds_100 : decode cL_holds 100 = .ok (.istore 8, 2) := by decide +kernel
theorem dL_holds_102 : decode cL_holds 102 = .ok (.iload 5, 2) := by decide +kernel
theorem dL_holds_104 : decode cL_holds 104 = .ok (.ifCond .eq 36, 3) := by decide +kernel
theorem dL_holds_107 : decode cL_holds 107 = .ok (.aload_n 0, 1) := by decide +kernel
theorem dL_holds_108 : decode cL_holds 108 = .ok (.iload 6, 2) := by decide +kernel
theorem dL_holds_110 : decode cL_holds 110 = .ok (.iload 9, 2) := by decide +kernel
theorem dL_holds_112 : decode cL_holds 112 = .ok (.invokevirtual 23, 3) := by decide +kernel
theorem dL_holds_115 : decode cL_holds 115 = .ok (.ifCond .lt 25, 3) := by decide +kernel
theorem dL_holds_118 : decode cL_holds 118 = .ok (.iload 9, 2) := by decide +kernel
theorem dL_holds_120 : decode cL_holds 120 = .ok (.iload 6, 2) := by decide +kernel
theorem dL_holds_122 : decode cL_holds 122 = .ok (.if_icmp .ne 14, 3) := by decide +kernel
theorem dL_holds_125 : decode cL_holds 125 = .ok (.aload_n 0, 1) := by decide +kernel
theorem dL_holds_126 : decode cL_holds 126 = .ok (.iload 6, 2) := by decide +kernel
theorem dL_holds_128 : decode cL_holds 128 = .ok (.iload 9, 2) := by decide +kernel
theorem dL_holds_130 : decode cL_holds 130 = .ok (.invokevirtual 23, 3) := by decide +kernel
theorem dL_holds_133 : decode cL_holds 133 = .ok (.ifCond .ne 7, 3) := by decide +kernel
theorem dL_holds_136 : decode cL_holds 136 = .ok (.iconst 1, 1) := by decide +kernel
theorem dL_holds_137 : decode cL_holds 137 = .ok (.goto 4, 3) := by decide +kernel
theorem dL_holds_140 : decode cL_holds 140 = .ok (.iconst 0, 1) := by decide +kernel
theorem dL_holds_141 : decode cL_holds 141 = .ok (.istore 5, 2) := by decide +kernel
theorem dL_holds_143 : decode cL_holds 143 = .ok (.iinc 9 1, 3) := by decide +kernel
theorem dL_holds_146 : decode cL_holds 146 = .ok (.goto (-77), 3) := by decide +kernel
theorem dL_holds_149 : decode cL_holds 149 = .ok (.aload_n 0, 1) := by decide +kernel
theorem dL_holds_150 : decode cL_holds 150 = .ok (.iload 6, 2) := by decide +kernel
theorem dL_holds_152 : decode cL_holds 152 = .ok (.bipush 6, 2) := by decide +kernel
theorem dL_holds_154 : decode cL_holds 154 = .ok (.invokevirtual 19, 3) := by decide +kernel
theorem dL_holds_157 : decode cL_holds 157 = .ok (.istore 9, 2) := by decide +kernel
theorem dL_holds_159 : decode cL_holds 159 = .ok (.iload 9, 2) := by decide +kernel
theorem dL_holds_161 : decode cL_holds 161 = .ok (.iload 8, 2) := by decide +kernel
theorem dL_holds_163 : decode cL_holds 163 = .ok (.isub, 1) := by decide +kernel
theorem dL_holds_164 : decode cL_holds 164 = .ok (.ifCond .le 11, 3) := by decide +kernel
theorem dL_holds_167 : decode cL_holds 167 = .ok (.iload 9, 2) := by decide +kernel
theorem dL_holds_169 : decode cL_holds 169 = .ok (.iload 8, 2) := by decide +kernel
theorem dL_holds_171 : decode cL_holds 171 = .ok (.isub, 1) := by decide +kernel
theorem dL_holds_172 : decode cL_holds 172 = .ok (.goto 4, 3) := by decide +kernel
theorem dL_holds_175 : decode cL_holds 175 = .ok (.iconst 0, 1) := by decide +kernel
theorem dL_holds_176 : decode cL_holds 176 = .ok (.istore 10, 2) := by decide +kernel
theorem dL_holds_178 : decode cL_holds 178 = .ok (.iload_n 1, 1) := by decide +kernel
theorem dL_holds_179 : decode cL_holds 179 = .ok (.aload_n 0, 1) := by decide +kernel
theorem dL_holds_180 : decode cL_holds 180 = .ok (.iload 6, 2) := by decide +kernel
theorem dL_holds_182 : decode cL_holds 182 = .ok (.iconst 0, 1) := by decide +kernel
theorem dL_holds_183 : decode cL_holds 183 = .ok (.invokevirtual 19, 3) := by decide +kernel
theorem dL_holds_186 : decode cL_holds 186 = .ok (.iadd, 1) := by decide +kernel
theorem dL_holds_187 : decode cL_holds 187 = .ok (.istore_n 1, 1) := by decide +kernel
theorem dL_holds_188 : decode cL_holds 188 = .ok (.iload_n 2, 1) := by decide +kernel
theorem dL_holds_189 : decode cL_holds 189 = .ok (.iload 9, 2) := by decide +kernel
theorem dL_holds_191 : decode cL_holds 191 = .ok (.iadd, 1) := by decide +kernel
theorem dL_holds_192 : decode cL_holds 192 = .ok (.istore_n 2, 1) := by decide +kernel
theorem dL_holds_193 : decode cL_holds 193 = .ok (.iload_n 3, 1) := by decide +kernel
theorem dL_holds_194 : decode cL_holds 194 = .ok (.iload 9, 2) := by decide +kernel
theorem dL_holds_196 : decode cL_holds 196 = .ok (.ifCond .le 7, 3) := by decide +kernel
theorem dL_holds_199 : decode cL_holds 199 = .ok (.iconst 1, 1) := by decide +kernel
theorem dL_holds_200 : decode cL_holds 200 = .ok (.goto 4, 3) := by decide +kernel
theorem dL_holds_203 : decode cL_holds 203 = .ok (.iconst 0, 1) := by decide +kernel
theorem dL_holds_204 : decode cL_holds 204 = .ok (.iadd, 1) := by decide +kernel
theorem dL_holds_205 : decode cL_holds 205 = .ok (.istore_n 3, 1) := by decide +kernel
theorem dL_holds_206 : decode cL_holds 206 = .ok (.iload 4, 2) := by decide +kernel
theorem dL_holds_208 : decode cL_holds 208 = .ok (.aload_n 0, 1) := by decide +kernel
theorem dL_holds_209 : decode cL_holds 209 = .ok (.iload 6, 2) := by decide +kernel
theorem dL_holds_211 : decode cL_holds 211 = .ok (.iconst 0, 1) := by decide +kernel
theorem dL_holds_212 : decode cL_holds 212 = .ok (.invokevirtual 19, 3) := by decide +kernel
theorem dL_holds_215 : decode cL_holds 215 = .ok (.iload 7, 2) := by decide +kernel
theorem dL_holds_217 : decode cL_holds 217 = .ok (.isub, 1) := by decide +kernel
theorem dL_holds_218 : decode cL_holds 218 = .ok (.iload 9, 2) := by decide +kernel
theorem dL_holds_220 : decode cL_holds 220 = .ok (.if_icmp .ge 7, 3) := by decide +kernel
theorem dL_holds_223 : decode cL_holds 223 = .ok (.iconst 1, 1) := by decide +kernel
theorem dL_holds_224 : decode cL_holds 224 = .ok (.goto 4, 3) := by decide +kernel
theorem dL_holds_227 : decode cL_holds 227 = .ok (.iconst 0, 1) := by decide +kernel
theorem dL_holds_228 : decode cL_holds 228 = .ok (.iadd, 1) := by decide +kernel
theorem dL_holds_229 : decode cL_holds 229 = .ok (.istore 4, 2) := by decide +kernel
theorem dL_holds_231 : decode cL_holds 231 = .ok (.iload 5, 2) := by decide +kernel
theorem dL_holds_233 : decode cL_holds 233 = .ok (.ifCond .eq 186, 3) := by decide +kernel
theorem dL_holds_236 : decode cL_holds 236 = .ok (.aload_n 0, 1) := by decide +kernel
theorem dL_holds_237 : decode cL_holds 237 = .ok (.iload 6, 2) := by decide +kernel
theorem dL_holds_239 : decode cL_holds 239 = .ok (.iconst 1, 1) := by decide +kernel
theorem dL_holds_240 : decode cL_holds 240 = .ok (.invokevirtual 19, 3) := by decide +kernel
theorem dL_holds_243 : decode cL_holds 243 = .ok (.iload 7, 2) := by decide +kernel
theorem dL_holds_245 : decode cL_holds 245 = .ok (.if_icmp .ne 174, 3) := by decide +kernel
theorem dL_holds_248 : decode cL_holds 248 = .ok (.aload_n 0, 1) := by decide +kernel
theorem dL_holds_249 : decode cL_holds 249 = .ok (.iload 6, 2) := by decide +kernel
theorem dL_holds_251 : decode cL_holds 251 = .ok (.iconst 2, 1) := by decide +kernel
theorem dL_holds_252 : decode cL_holds 252 = .ok (.invokevirtual 19, 3) := by decide +kernel
theorem dL_holds_255 : decode cL_holds 255 = .ok (.iload 8, 2) := by decide +kernel
theorem dL_holds_257 : decode cL_holds 257 = .ok (.if_icmp .ne 162, 3) := by decide +kernel
theorem dL_holds_260 : decode cL_holds 260 = .ok (.aload_n 0, 1) := by decide +kernel
theorem dL_holds_261 : decode cL_holds 261 = .ok (.iload 6, 2) := by decide +kernel
theorem dL_holds_263 : decode cL_holds 263 = .ok (.iconst 3, 1) := by decide +kernel
theorem dL_holds_264 : decode cL_holds 264 = .ok (.invokevirtual 19, 3) := by decide +kernel
theorem dL_holds_267 : decode cL_holds 267 = .ok (.aload_n 0, 1) := by decide +kernel
theorem dL_holds_268 : decode cL_holds 268 = .ok (.iload 6, 2) := by decide +kernel
theorem dL_holds_270 : decode cL_holds 270 = .ok (.iconst 0, 1) := by decide +kernel
theorem dL_holds_271 : decode cL_holds 271 = .ok (.invokevirtual 19, 3) := by decide +kernel
theorem dL_holds_274 : decode cL_holds 274 = .ok (.iload 8, 2) := by decide +kernel
theorem dL_holds_276 : decode cL_holds 276 = .ok (.iadd, 1) := by decide +kernel
theorem dL_holds_277 : decode cL_holds 277 = .ok (.iload 7, 2) := by decide +kernel
theorem dL_holds_279 : decode cL_holds 279 = .ok (.isub, 1) := by decide +kernel
theorem dL_holds_280 : decode cL_holds 280 = .ok (.if_icmp .ne 139, 3) := by decide +kernel
theorem dL_holds_283 : decode cL_holds 283 = .ok (.aload_n 0, 1) := by decide +kernel
theorem dL_holds_284 : decode cL_holds 284 = .ok (.iload 6, 2) := by decide +kernel
theorem dL_holds_286 : decode cL_holds 286 = .ok (.iconst 3, 1) := by decide +kernel
theorem dL_holds_287 : decode cL_holds 287 = .ok (.invokevirtual 19, 3) := by decide +kernel
theorem dL_holds_290 : decode cL_holds 290 = .ok (.iload 9, 2) := by decide +kernel
theorem dL_holds_292 : decode cL_holds 292 = .ok (.if_icmp .lt 127, 3) := by decide +kernel
theorem dL_holds_295 : decode cL_holds 295 = .ok (.aload_n 0, 1) := by decide +kernel
theorem dL_holds_296 : decode cL_holds 296 = .ok (.iload 6, 2) := by decide +kernel
theorem dL_holds_298 : decode cL_holds 298 = .ok (.iconst 4, 1) := by decide +kernel
theorem dL_holds_299 : decode cL_holds 299 = .ok (.invokevirtual 19, 3) := by decide +kernel
theorem dL_holds_302 : decode cL_holds 302 = .ok (.ifCond .lt 117, 3) := by decide +kernel
theorem dL_holds_305 : decode cL_holds 305 = .ok (.aload_n 0, 1) := by decide +kernel
theorem dL_holds_306 : decode cL_holds 306 = .ok (.iload 6, 2) := by decide +kernel
theorem dL_holds_308 : decode cL_holds 308 = .ok (.iconst 4, 1) := by decide +kernel
theorem dL_holds_309 : decode cL_holds 309 = .ok (.invokevirtual 19, 3) := by decide +kernel
theorem dL_holds_312 : decode cL_holds 312 = .ok (.aload_n 0, 1) := by decide +kernel
theorem dL_holds_313 : decode cL_holds 313 = .ok (.iload 6, 2) := by decide +kernel
theorem dL_holds_315 : decode cL_holds 315 = .ok (.iconst 0, 1) := by decide +kernel
theorem dL_holds_316 : decode cL_holds 316 = .ok (.invokevirtual 19, 3) := by decide +kernel
theorem dL_holds_319 : decode cL_holds 319 = .ok (.iload 7, 2) := by decide +kernel
theorem dL_holds_321 : decode cL_holds 321 = .ok (.isub, 1) := by decide +kernel
theorem dL_holds_322 : decode cL_holds 322 = .ok (.iload 10, 2) := by decide +kernel
theorem dL_holds_324 : decode cL_holds 324 = .ok (.isub, 1) := by decide +kernel
theorem dL_holds_325 : decode cL_holds 325 = .ok (.if_icmp .ne 94, 3) := by decide +kernel
theorem dL_holds_328 : decode cL_holds 328 = .ok (.aload_n 0, 1) := by decide +kernel
theorem dL_holds_329 : decode cL_holds 329 = .ok (.iload 6, 2) := by decide +kernel
theorem dL_holds_331 : decode cL_holds 331 = .ok (.iconst 0, 1) := by decide +kernel
theorem dL_holds_332 : decode cL_holds 332 = .ok (.invokevirtual 19, 3) := by decide +kernel
theorem dL_holds_335 : decode cL_holds 335 = .ok (.ldc 91, 2) := by decide +kernel
theorem dL_holds_337 : decode cL_holds 337 = .ok (.if_icmp .gt 82, 3) := by decide +kernel
theorem dL_holds_340 : decode cL_holds 340 = .ok (.iload 9, 2) := by decide +kernel
theorem dL_holds_342 : decode cL_holds 342 = .ok (.ifCond .ne 7, 3) := by decide +kernel
theorem dL_holds_345 : decode cL_holds 345 = .ok (.iconst 1, 1) := by decide +kernel
theorem dL_holds_346 : decode cL_holds 346 = .ok (.goto 4, 3) := by decide +kernel
theorem dL_holds_349 : decode cL_holds 349 = .ok (.iconst 0, 1) := by decide +kernel
theorem dL_holds_350 : decode cL_holds 350 = .ok (.aload_n 0, 1) := by decide +kernel
theorem dL_holds_351 : decode cL_holds 351 = .ok (.iload 6, 2) := by decide +kernel
theorem dL_holds_353 : decode cL_holds 353 = .ok (.bipush 7, 2) := by decide +kernel
theorem dL_holds_355 : decode cL_holds 355 = .ok (.invokevirtual 19, 3) := by decide +kernel
theorem dL_holds_358 : decode cL_holds 358 = .ok (.iconst (-1), 1) := by decide +kernel
theorem dL_holds_359 : decode cL_holds 359 = .ok (.if_icmp .ne 7, 3) := by decide +kernel
theorem dL_holds_362 : decode cL_holds 362 = .ok (.iconst 1, 1) := by decide +kernel
theorem dL_holds_363 : decode cL_holds 363 = .ok (.goto 4, 3) := by decide +kernel
theorem dL_holds_366 : decode cL_holds 366 = .ok (.iconst 0, 1) := by decide +kernel
theorem dL_holds_367 : decode cL_holds 367 = .ok (.if_icmp .ne 52, 3) := by decide +kernel
theorem dL_holds_370 : decode cL_holds 370 = .ok (.aload_n 0, 1) := by decide +kernel
theorem dL_holds_371 : decode cL_holds 371 = .ok (.iload 6, 2) := by decide +kernel
theorem dL_holds_373 : decode cL_holds 373 = .ok (.iconst 0, 1) := by decide +kernel
theorem dL_holds_374 : decode cL_holds 374 = .ok (.invokevirtual 54, 3) := by decide +kernel
theorem dL_holds_377 : decode cL_holds 377 = .ok (.ifCond .ne 7, 3) := by decide +kernel
theorem dL_holds_380 : decode cL_holds 380 = .ok (.iconst 1, 1) := by decide +kernel
theorem dL_holds_381 : decode cL_holds 381 = .ok (.goto 4, 3) := by decide +kernel
theorem dL_holds_384 : decode cL_holds 384 = .ok (.iconst 0, 1) := by decide +kernel
theorem dL_holds_385 : decode cL_holds 385 = .ok (.iload 9, 2) := by decide +kernel
theorem dL_holds_387 : decode cL_holds 387 = .ok (.ifCond .ne 7, 3) := by decide +kernel
theorem dL_holds_390 : decode cL_holds 390 = .ok (.iconst 1, 1) := by decide +kernel
theorem dL_holds_391 : decode cL_holds 391 = .ok (.goto 4, 3) := by decide +kernel
theorem dL_holds_394 : decode cL_holds 394 = .ok (.iconst 0, 1) := by decide +kernel
theorem dL_holds_395 : decode cL_holds 395 = .ok (.if_icmp .ne 24, 3) := by decide +kernel
theorem dL_holds_398 : decode cL_holds 398 = .ok (.aload_n 0, 1) := by decide +kernel
theorem dL_holds_399 : decode cL_holds 399 = .ok (.iload 6, 2) := by decide +kernel
theorem dL_holds_401 : decode cL_holds 401 = .ok (.iconst 0, 1) := by decide +kernel
theorem dL_holds_402 : decode cL_holds 402 = .ok (.invokevirtual 54, 3) := by decide +kernel
theorem dL_holds_405 : decode cL_holds 405 = .ok (.aload_n 0, 1) := by decide +kernel
theorem dL_holds_406 : decode cL_holds 406 = .ok (.iload 6, 2) := by decide +kernel
theorem dL_holds_408 : decode cL_holds 408 = .ok (.iconst 1, 1) := by decide +kernel
theorem dL_holds_409 : decode cL_holds 409 = .ok (.invokevirtual 54, 3) := by decide +kernel
theorem dL_holds_412 : decode cL_holds 412 = .ok (.if_icmp .ne 7, 3) := by decide +kernel
theorem dL_holds_415 : decode cL_holds 415 = .ok (.iconst 1, 1) := by decide +kernel
theorem dL_holds_416 : decode cL_holds 416 = .ok (.goto 4, 3) := by decide +kernel
theorem dL_holds_419 : decode cL_holds 419 = .ok (.iconst 0, 1) := by decide +kernel
theorem dL_holds_420 : decode cL_holds 420 = .ok (.istore 5, 2) := by decide +kernel
theorem dL_holds_422 : decode cL_holds 422 = .ok (.iinc 6 1, 3) := by decide +kernel
theorem dL_holds_425 : decode cL_holds 425 = .ok (.goto (-372), 3) := by decide +kernel
theorem dL_holds_428 : decode cL_holds 428 = .ok (.iload 5, 2) := by decide +kernel
theorem dL_holds_430 : decode cL_holds 430 = .ok (.ifCond .eq 76, 3) := by decide +kernel
theorem dL_holds_433 : decode cL_holds 433 = .ok (.aload_n 0, 1) := by decide +kernel
theorem dL_holds_434 : decode cL_holds 434 = .ok (.iconst 2, 1) := by decide +kernel
theorem dL_holds_435 : decode cL_holds 435 = .ok (.invokevirtual 13, 3) := by decide +kernel
theorem dL_holds_438 : decode cL_holds 438 = .ok (.iload_n 1, 1) := by decide +kernel
theorem dL_holds_439 : decode cL_holds 439 = .ok (.if_icmp .ne 67, 3) := by decide +kernel
theorem dL_holds_442 : decode cL_holds 442 = .ok (.aload_n 0, 1) := by decide +kernel
theorem dL_holds_443 : decode cL_holds 443 = .ok (.iconst 3, 1) := by decide +kernel
theorem dL_holds_444 : decode cL_holds 444 = .ok (.invokevirtual 13, 3) := by decide +kernel
theorem dL_holds_447 : decode cL_holds 447 = .ok (.iload_n 2, 1) := by decide +kernel
theorem dL_holds_448 : decode cL_holds 448 = .ok (.if_icmp .ne 58, 3) := by decide +kernel
theorem dL_holds_451 : decode cL_holds 451 = .ok (.aload_n 0, 1) := by decide +kernel
theorem dL_holds_452 : decode cL_holds 452 = .ok (.iconst 4, 1) := by decide +kernel
theorem dL_holds_453 : decode cL_holds 453 = .ok (.invokevirtual 13, 3) := by decide +kernel
theorem dL_holds_456 : decode cL_holds 456 = .ok (.iload_n 3, 1) := by decide +kernel
theorem dL_holds_457 : decode cL_holds 457 = .ok (.if_icmp .ne 49, 3) := by decide +kernel
theorem dL_holds_460 : decode cL_holds 460 = .ok (.aload_n 0, 1) := by decide +kernel
theorem dL_holds_461 : decode cL_holds 461 = .ok (.iconst 5, 1) := by decide +kernel
theorem dL_holds_462 : decode cL_holds 462 = .ok (.invokevirtual 13, 3) := by decide +kernel
theorem dL_holds_465 : decode cL_holds 465 = .ok (.aload_n 0, 1) := by decide +kernel
theorem dL_holds_466 : decode cL_holds 466 = .ok (.bipush 6, 2) := by decide +kernel
theorem dL_holds_468 : decode cL_holds 468 = .ok (.invokevirtual 13, 3) := by decide +kernel
theorem dL_holds_471 : decode cL_holds 471 = .ok (.iload_n 3, 1) := by decide +kernel
theorem dL_holds_472 : decode cL_holds 472 = .ok (.iadd, 1) := by decide +kernel
theorem dL_holds_473 : decode cL_holds 473 = .ok (.if_icmp .lt 33, 3) := by decide +kernel
theorem dL_holds_476 : decode cL_holds 476 = .ok (.aload_n 0, 1) := by decide +kernel
theorem dL_holds_477 : decode cL_holds 477 = .ok (.invokevirtual 92, 3) := by decide +kernel
theorem dL_holds_480 : decode cL_holds 480 = .ok (.iconst (-1), 1) := by decide +kernel
theorem dL_holds_481 : decode cL_holds 481 = .ok (.if_icmp .ne 7, 3) := by decide +kernel
theorem dL_holds_484 : decode cL_holds 484 = .ok (.iconst 1, 1) := by decide +kernel
theorem dL_holds_485 : decode cL_holds 485 = .ok (.goto 4, 3) := by decide +kernel
theorem dL_holds_488 : decode cL_holds 488 = .ok (.iconst 0, 1) := by decide +kernel
theorem dL_holds_489 : decode cL_holds 489 = .ok (.iload 4, 2) := by decide +kernel
theorem dL_holds_491 : decode cL_holds 491 = .ok (.ifCond .ne 7, 3) := by decide +kernel
theorem dL_holds_494 : decode cL_holds 494 = .ok (.iconst 1, 1) := by decide +kernel
theorem dL_holds_495 : decode cL_holds 495 = .ok (.goto 4, 3) := by decide +kernel
theorem dL_holds_498 : decode cL_holds 498 = .ok (.iconst 0, 1) := by decide +kernel
theorem dL_holds_499 : decode cL_holds 499 = .ok (.if_icmp .ne 7, 3) := by decide +kernel
theorem dL_holds_502 : decode cL_holds 502 = .ok (.iconst 1, 1) := by decide +kernel
theorem dL_holds_503 : decode cL_holds 503 = .ok (.goto 4, 3) := by decide +kernel
theorem dL_holds_506 : decode cL_holds 506 = .ok (.iconst 0, 1) := by decide +kernel
theorem dL_holds_507 : decode cL_holds 507 = .ok (.ireturn, 1) := by decide +kernel
set_option maxRecDepth 20000 in
theorem ggL_isAhead_X2_greatest : GoodIn wsL_isAhead wsX2_greatest := goodIn_ca (goodIn_ca (goodIn_r _ [5, 6, 7, 4, 8, 9, 10, 11, 12, 13, 14, 15, 16, 17, 18, 19, 20, 21, 22, 23, 24, 25, 26, 27, 28, 29, 30, 31, 32, 33, 34, 35, 36, 37, 38, 39, 40, 41, 42, 43, 44, 45, 46, 47, 48, 49, 50, 51, 52, 53, 54, 55, 56, 57, 58, 59, 60, 61, 62, 63, 64, 65, 66, 67, 68, 69, 70, 131, 132, 133, 134, 135, 136, 137, 138, 139, 140, 141, 142, 143, 144, 145, 146, 147, 148, 149, 150, 151, 152, 153, 154, 155] (by decide +kernel) (by decide +kernel)) (goodIn_sub (fun _ h => List.mem_cons_of_mem _ (List.mem_append_left _ (List.mem_append_right _ h))) (by decide +kernel))) (goodIn_sub (fun _ h => List.mem_cons_of_mem _ (List.mem_append_right _ h)) (by decide +kernel))
set_option maxRecDepth 20000 in
theorem gL_isAhead_X2_greatest : GoodIn wsL_isAhead (wsV RL 95 RX2 yX2_greatest wsX2_greatest) := goodIn_app (goodIn_of _ (by decide +kernel)) ggL_isAhead_X2_greatest
set_option maxRecDepth 20000 in
theorem ggL_isAhead_X2_guarantors : GoodIn wsL_isAhead wsX2_guarantors := goodIn_ca (goodIn_ca (goodIn_r _ [74, 6, 7, 4, 8, 9, 10, 75, 76, 77, 11, 12, 13, 14, 15, 78, 79, 80, 81, 20, 82, 83, 84, 85, 86, 87, 88, 89, 24, 90, 30, 91, 92, 93, 94, 40, 41, 42, 43, 35, 44, 45, 46, 47, 48, 49, 50, 51, 52, 69, 37, 38, 39, 95, 96, 97, 98, 99, 100, 101, 102, 103, 104, 105, 106, 107, 108, 109, 110, 111, 112, 113, 131, 132, 133, 134, 135, 136, 137, 138, 139, 140, 141, 142, 143, 144, 145, 146, 147, 148, 149, 150, 151, 152, 153, 154, 155] (by decide +kernel) (by decide +kernel)) (goodIn_sub (fun _ h => List.mem_cons_of_mem _ (List.mem_append_left _ (List.mem_append_right _ h))) (by decide +kernel))) (goodIn_sub (fun _ h => List.mem_cons_of_mem _ (List.mem_append_right _ h)) (by decide +kernel))
set_option maxRecDepth 20000 in
theorem gL_isAhead_X2_guarantors : GoodIn wsL_isAhead (wsV RL 98 RX2 yX2_guarantors wsX2_guarantors) := goodIn_app (goodIn_of _ (by decide +kernel)) ggL_isAhead_X2_guarantors
set_option maxRecDepth 20000 in
theorem ggL_isAhead_X2_whyNot : GoodIn wsL_isAhead wsX2_whyNot := goodIn_ca (goodIn_ca (goodIn_r _ [117, 20, 6, 7, 4, 8, 9, 10, 75, 76, 77, 11, 12, 13, 14, 15, 21, 22, 23, 24, 25, 26, 27, 28, 29, 30, 31, 32, 33, 34, 35, 36, 37, 38, 39, 40, 41, 42, 43, 44, 45, 46, 47, 48, 49, 50, 51, 52, 53, 54, 55, 56, 57, 58, 59, 60, 61, 62, 131, 132, 133, 134, 135, 136, 137, 138, 139, 140, 141, 142, 143, 144, 145, 146, 147, 148, 149, 150, 151, 152, 153, 154, 155] (by decide +kernel) (by decide +kernel)) (goodIn_sub (fun _ h => List.mem_cons_of_mem _ (List.mem_append_left _ (List.mem_append_right _ h))) (by decide +kernel))) (goodIn_sub (fun _ h => List.mem_cons_of_mem _ (List.mem_append_right _ h)) (by decide +kernel))
set_option maxRecDepth 20000 in
theorem gL_isAhead_X2_whyNot : GoodIn wsL_isAhead (wsV RL 48 RX2 yX2_whyNot wsX2_whyNot) := goodIn_app (goodIn_of _ (by decide +kernel)) ggL_isAhead_X2_whyNot
set_option maxRecDepth 20000 in
theorem ggL_isAhead_X2_memberOf : GoodIn wsL_isAhead wsX2_memberOf := goodIn_ca (goodIn_ca (goodIn_r _ [121, 20, 6, 7, 4, 8, 9, 10, 11, 12, 13, 14, 15, 122, 123, 124, 24, 125, 35, 126, 30, 127, 128, 129, 44, 45, 46, 47, 48, 49, 50, 51, 52, 36, 37, 38, 39, 40, 41, 42, 43, 130, 88, 89, 90, 91, 92, 93, 94, 26, 27, 28, 29, 131, 132, 133, 134, 135, 136, 137, 138, 139, 140, 141, 142, 143, 144, 145, 146, 147, 148, 149, 150, 151, 152, 153, 154, 155] (by decide +kernel) (by decide +kernel)) (goodIn_sub (fun _ h => List.mem_cons_of_mem _ (List.mem_append_left _ (List.mem_append_right _ h))) (by decide +kernel))) (goodIn_sub (fun _ h => List.mem_cons_of_mem _ (List.mem_append_right _ h)) (by decide +kernel))
set_option maxRecDepth 20000 in
theorem gL_isAhead_X2_memberOf : GoodIn wsL_isAhead (wsV RL 19 RX2 yX2_memberOf wsX2_memberOf) := goodIn_app (goodIn_of _ (by decide +kernel)) ggL_isAhead_X2_memberOf
theorem dL_isAhead_0 : decode cL_isAhead 0 = .ok (.aload_n 0, 1) := by decide +kernel
theorem dL_isAhead_1 : decode cL_isAhead 1 = .ok (.iload_n 1, 1) := by decide +kernel
theorem dL_isAhead_2 : decode cL_isAhead 2 = .ok (.iconst 0, 1) := by decide +kernel
theorem dL_isAhead_3 : decode cL_isAhead 3 = .ok (.invokevirtual 95, 3) := by decide +kernel
theorem dL_isAhead_6 : decode cL_isAhead 6 = .ok (.istore_n 3, 1) := by decide +kernel
theorem dL_isAhead_7 : decode cL_isAhead 7 = .ok (.aload_n 0, 1) := by decide +kernel
theorem dL_isAhead_8 : decode cL_isAhead 8 = .ok (.iload_n 1, 1) := by decide +kernel
theorem dL_isAhead_9 : decode cL_isAhead 9 = .ok (.iload_n 2, 1) := by decide +kernel
theorem dL_isAhead_10 : decode cL_isAhead 10 = .ok (.iconst 0, 1) := by decide +kernel
theorem dL_isAhead_11 : decode cL_isAhead 11 = .ok (.invokevirtual 98, 3) := by decide +kernel
theorem dL_isAhead_14 : decode cL_isAhead 14 = .ok (.istore 4, 2) := by decide +kernel
theorem dL_isAhead_16 : decode cL_isAhead 16 = .ok (.aload_n 0, 1) := by decide +kernel
theorem dL_isAhead_17 : decode cL_isAhead 17 = .ok (.iload_n 1, 1) := by decide +kernel
theorem dL_isAhead_18 : decode cL_isAhead 18 = .ok (.iload_n 2, 1) := by decide +kernel
theorem dL_isAhead_19 : decode cL_isAhead 19 = .ok (.sipush 9999, 3) := by decide +kernel
theorem dL_isAhead_22 : decode cL_isAhead 22 = .ok (.if_icmp .ge 9, 3) := by decide +kernel
theorem dL_isAhead_25 : decode cL_isAhead 25 = .ok (.iload_n 2, 1) := by decide +kernel
theorem dL_isAhead_26 : decode cL_isAhead 26 = .ok (.iconst 1, 1) := by decide +kernel
theorem dL_isAhead_27 : decode cL_isAhead 27 = .ok (.iadd, 1) := by decide +kernel
theorem dL_isAhead_28 : decode cL_isAhead 28 = .ok (.goto 4, 3) := by decide +kernel
theorem dL_isAhead_31 : decode cL_isAhead 31 = .ok (.iload_n 2, 1) := by decide +kernel
theorem dL_isAhead_32 : decode cL_isAhead 32 = .ok (.iconst 0, 1) := by decide +kernel
theorem dL_isAhead_33 : decode cL_isAhead 33 = .ok (.invokevirtual 98, 3) := by decide +kernel
theorem dL_isAhead_36 : decode cL_isAhead 36 = .ok (.istore 5, 2) := by decide +kernel
theorem dL_isAhead_38 : decode cL_isAhead 38 = .ok (.iload_n 3, 1) := by decide +kernel
theorem dL_isAhead_39 : decode cL_isAhead 39 = .ok (.aload_n 0, 1) := by decide +kernel
theorem dL_isAhead_40 : decode cL_isAhead 40 = .ok (.iload_n 1, 1) := by decide +kernel
theorem dL_isAhead_41 : decode cL_isAhead 41 = .ok (.iconst 1, 1) := by decide +kernel
theorem dL_isAhead_42 : decode cL_isAhead 42 = .ok (.invokevirtual 95, 3) := by decide +kernel
theorem dL_isAhead_45 : decode cL_isAhead 45 = .ok (.if_icmp .ne 65, 3) := by decide +kernel
theorem dL_isAhead_48 : decode cL_isAhead 48 = .ok (.aload_n 0, 1) := by decide +kernel
theorem dL_isAhead_49 : decode cL_isAhead 49 = .ok (.iload_n 1, 1) := by decide +kernel
theorem dL_isAhead_50 : decode cL_isAhead 50 = .ok (.iload_n 2, 1) := by decide +kernel
theorem dL_isAhead_51 : decode cL_isAhead 51 = .ok (.invokevirtual 48, 3) := by decide +kernel
theorem dL_isAhead_54 : decode cL_isAhead 54 = .ok (.ifCond .ne 7, 3) := by decide +kernel
theorem dL_isAhead_57 : decode cL_isAhead 57 = .ok (.iconst 1, 1) := by decide +kernel
theorem dL_isAhead_58 : decode cL_isAhead 58 = .ok (.goto 4, 3) := by decide +kernel
theorem dL_isAhead_61 : decode cL_isAhead 61 = .ok (.iconst 0, 1) := by decide +kernel
theorem dL_isAhead_62 : decode cL_isAhead 62 = .ok (.iload_n 2, 1) := by decide +kernel
theorem dL_isAhead_63 : decode cL_isAhead 63 = .ok (.iload_n 3, 1) := by decide +kernel
theorem dL_isAhead_64 : decode cL_isAhead 64 = .ok (.if_icmp .gt 7, 3) := by decide +kernel
theorem dL_isAhead_67 : decode cL_isAhead 67 = .ok (.iconst 1, 1) := by decide +kernel
theorem dL_isAhead_68 : decode cL_isAhead 68 = .ok (.goto 4, 3) := by decide +kernel
theorem dL_isAhead_71 : decode cL_isAhead 71 = .ok (.iconst 0, 1) := by decide +kernel
theorem dL_isAhead_72 : decode cL_isAhead 72 = .ok (.if_icmp .ne 38, 3) := by decide +kernel
theorem dL_isAhead_75 : decode cL_isAhead 75 = .ok (.iload_n 3, 1) := by decide +kernel
theorem dL_isAhead_76 : decode cL_isAhead 76 = .ok (.ifCond .eq 12, 3) := by decide +kernel
theorem dL_isAhead_79 : decode cL_isAhead 79 = .ok (.aload_n 0, 1) := by decide +kernel
theorem dL_isAhead_80 : decode cL_isAhead 80 = .ok (.iload_n 1, 1) := by decide +kernel
theorem dL_isAhead_81 : decode cL_isAhead 81 = .ok (.iload_n 3, 1) := by decide +kernel
theorem dL_isAhead_82 : decode cL_isAhead 82 = .ok (.invokevirtual 48, 3) := by decide +kernel
theorem dL_isAhead_85 : decode cL_isAhead 85 = .ok (.ifCond .ne 25, 3) := by decide +kernel
theorem dL_isAhead_88 : decode cL_isAhead 88 = .ok (.iload_n 3, 1) := by decide +kernel
theorem dL_isAhead_89 : decode cL_isAhead 89 = .ok (.sipush 9999, 3) := by decide +kernel
theorem dL_isAhead_92 : decode cL_isAhead 92 = .ok (.if_icmp .eq 14, 3) := by decide +kernel
theorem dL_isAhead_95 : decode cL_isAhead 95 = .ok (.aload_n 0, 1) := by decide +kernel
theorem dL_isAhead_96 : decode cL_isAhead 96 = .ok (.iload_n 1, 1) := by decide +kernel
theorem dL_isAhead_97 : decode cL_isAhead 97 = .ok (.iload_n 3, 1) := by decide +kernel
theorem dL_isAhead_98 : decode cL_isAhead 98 = .ok (.iconst 1, 1) := by decide +kernel
theorem dL_isAhead_99 : decode cL_isAhead 99 = .ok (.iadd, 1) := by decide +kernel
theorem dL_isAhead_100 : decode cL_isAhead 100 = .ok (.invokevirtual 48, 3) := by decide +kernel
theorem dL_isAhead_103 : decode cL_isAhead 103 = .ok (.ifCond .le 7, 3) := by decide +kernel
theorem dL_isAhead_106 : decode cL_isAhead 106 = .ok (.iconst 1, 1) := by decide +kernel
theorem dL_isAhead_107 : decode cL_isAhead 107 = .ok (.goto 4, 3) := by decide +kernel
theorem dL_isAhead_110 : decode cL_isAhead 110 = .ok (.iconst 0, 1) := by decide +kernel
theorem dL_isAhead_111 : decode cL_isAhead 111 = .ok (.istore 6, 2) := by decide +kernel
theorem dL_isAhead_113 : decode cL_isAhead 113 = .ok (.iload 6, 2) := by decide +kernel
theorem dL_isAhead_115 : decode cL_isAhead 115 = .ok (.ifCond .eq 81, 3) := by decide +kernel
theorem dL_isAhead_118 : decode cL_isAhead 118 = .ok (.iload 4, 2) := by decide +kernel
theorem dL_isAhead_120 : decode cL_isAhead 120 = .ok (.aload_n 0, 1) := by decide +kernel
theorem dL_isAhead_121 : decode cL_isAhead 121 = .ok (.iload_n 1, 1) := by decide +kernel
theorem dL_isAhead_122 : decode cL_isAhead 122 = .ok (.iload_n 2, 1) := by decide +kernel
theorem dL_isAhead_123 : decode cL_isAhead 123 = .ok (.iconst 1, 1) := by decide +kernel
theorem dL_isAhead_124 : decode cL_isAhead 124 = .ok (.invokevirtual 98, 3) := by decide +kernel
theorem dL_isAhead_127 : decode cL_isAhead 127 = .ok (.if_icmp .ne 69, 3) := by decide +kernel
theorem dL_isAhead_130 : decode cL_isAhead 130 = .ok (.iload 4, 2) := by decide +kernel
theorem dL_isAhead_132 : decode cL_isAhead 132 = .ok (.ifCond .ne 7, 3) := by decide +kernel
theorem dL_isAhead_135 : decode cL_isAhead 135 = .ok (.iconst 1, 1) := by decide +kernel
theorem dL_isAhead_136 : decode cL_isAhead 136 = .ok (.goto 4, 3) := by decide +kernel
theorem dL_isAhead_139 : decode cL_isAhead 139 = .ok (.iconst 0, 1) := by decide +kernel
theorem dL_isAhead_140 : decode cL_isAhead 140 = .ok (.aload_n 0, 1) := by decide +kernel
theorem dL_isAhead_141 : decode cL_isAhead 141 = .ok (.iload_n 1, 1) := by decide +kernel
theorem dL_isAhead_142 : decode cL_isAhead 142 = .ok (.iconst 3, 1) := by decide +kernel
theorem dL_isAhead_143 : decode cL_isAhead 143 = .ok (.invokevirtual 19, 3) := by decide +kernel
theorem dL_isAhead_146 : decode cL_isAhead 146 = .ok (.iload_n 2, 1) := by decide +kernel
theorem dL_isAhead_147 : decode cL_isAhead 147 = .ok (.if_icmp .lt 7, 3) := by decide +kernel
theorem dL_isAhead_150 : decode cL_isAhead 150 = .ok (.iconst 1, 1) := by decide +kernel
theorem dL_isAhead_151 : decode cL_isAhead 151 = .ok (.goto 4, 3) := by decide +kernel
theorem dL_isAhead_154 : decode cL_isAhead 154 = .ok (.iconst 0, 1) := by decide +kernel
theorem dL_isAhead_155 : decode cL_isAhead 155 = .ok (.if_icmp .ne 41, 3) := by decide +kernel
theorem dL_isAhead_158 : decode cL_isAhead 158 = .ok (.iload 4, 2) := by decide +kernel
theorem dL_isAhead_160 : decode cL_isAhead 160 = .ok (.iconst (-1), 1) := by decide +kernel
theorem dL_isAhead_161 : decode cL_isAhead 161 = .ok (.if_icmp .ne 12, 3) := by decide +kernel
theorem dL_isAhead_164 : decode cL_isAhead 164 = .ok (.iload 5, 2) := by decide +kernel
theorem dL_isAhead_166 : decode cL_isAhead 166 = .ok (.iconst (-1), 1) := by decide +kernel
theorem dL_isAhead_167 : decode cL_isAhead 167 = .ok (.if_icmp .ne 29, 3) := by decide +kernel
theorem dL_isAhead_170 : decode cL_isAhead 170 = .ok (.goto 16, 3) := by decide +kernel
theorem dL_isAhead_173 : decode cL_isAhead 173 = .ok (.iload 5, 2) := by decide +kernel
theorem dL_isAhead_175 : decode cL_isAhead 175 = .ok (.iconst (-1), 1) := by decide +kernel
theorem dL_isAhead_176 : decode cL_isAhead 176 = .ok (.if_icmp .eq 10, 3) := by decide +kernel
theorem dL_isAhead_179 : decode cL_isAhead 179 = .ok (.iload 5, 2) := by decide +kernel
theorem dL_isAhead_181 : decode cL_isAhead 181 = .ok (.iload 4, 2) := by decide +kernel
theorem dL_isAhead_183 : decode cL_isAhead 183 = .ok (.if_icmp .lt 13, 3) := by decide +kernel
theorem dL_isAhead_186 : decode cL_isAhead 186 = .ok (.iload 4, 2) := by decide +kernel
theorem dL_isAhead_188 : decode cL_isAhead 188 = .ok (.iconst 5, 1) := by decide +kernel
theorem dL_isAhead_189 : decode cL_isAhead 189 = .ok (.if_icmp .gt 7, 3) := by decide +kernel
theorem dL_isAhead_192 : decode cL_isAhead 192 = .ok (.iconst 1, 1) := by decide +kernel
theorem dL_isAhead_193 : decode cL_isAhead 193 = .ok (.goto 4, 3) := by decide +kernel
theorem dL_isAhead_196 : decode cL_isAhead 196 = .ok (.iconst 0, 1) := by decide +kernel
theorem dL_isAhead_197 : decode cL_isAhead 197 = .ok (.ireturn, 1) := by decide +kernel

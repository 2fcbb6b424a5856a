theorem dX0_init_0 : decode cX0_init 0 = .ok (.aload_n 0, 1) := by decide +kernel
theorem dX0_init_1 : decode cX0_init 1 = .ok (.invokespecial 3, 3) := by decide +kernel
theorem dX0_init_4 : decode cX0_init 4 = .ok (.aload_n 0, 1) := by decide +kernel
theorem dX0_init_5 : decode cX0_init 5 = .ok (.bipush 6, 2) := by decide +kernel
theorem dX0_init_7 : decode cX0_init 7 = .ok (.newarray .int, 2) := by decide +kernel
theorem dX0_init_9 : decode cX0_init 9 = .ok (.putfield 9, 3) := by decide +kernel
theorem dX0_init_12 : decode cX0_init 12 = .ok (.aload_n 0, 1) := by decide +kernel
theorem dX0_init_13 : decode cX0_init 13 = .ok (.bipush 6, 2) := by decide +kernel
theorem dX0_init_15 : decode cX0_init 15 = .ok (.newarray .int, 2) := by decide +kernel
theorem dX0_init_17 : decode cX0_init 17 = .ok (.putfield 15, 3) := by decide +kernel
theorem dX0_init_20 : decode cX0_init 20 = .ok (.aload_n 0, 1) := by decide +kernel
theorem dX0_init_21 : decode cX0_init 21 = .ok (.bipush 36, 2) := by decide +kernel
theorem dX0_init_23 : decode cX0_init 23 = .ok (.newarray .int, 2) := by decide +kernel
theorem dX0_init_25 : decode cX0_init 25 = .ok (.putfield 18, 3) := by decide +kernel
theorem dX0_init_28 : decode cX0_init 28 = .ok (.aload_n 0, 1) := by decide +kernel
theorem dX0_init_29 : decode cX0_init 29 = .ok (.bipush 6, 2) := by decide +kernel
theorem dX0_init_31 : decode cX0_init 31 = .ok (.newarray .int, 2) := by decide +kernel
theorem dX0_init_33 : decode cX0_init 33 = .ok (.putfield 21, 3) := by decide +kernel
theorem dX0_init_36 : decode cX0_init 36 = .ok (.aload_n 0, 1) := by decide +kernel
theorem dX0_init_37 : decode cX0_init 37 = .ok (.bipush 6, 2) := by decide +kernel
theorem dX0_init_39 : decode cX0_init 39 = .ok (.newarray .int, 2) := by decide +kernel
theorem dX0_init_41 : decode cX0_init 41 = .ok (.putfield 24, 3) := by decide +kernel
theorem dX0_init_44 : decode cX0_init 44 = .ok (.aload_n 0, 1) := by decide +kernel
theorem dX0_init_45 : decode cX0_init 45 = .ok (.bipush 6, 2) := by decide +kernel
theorem dX0_init_47 : decode cX0_init 47 = .ok (.newarray .int, 2) := by decide +kernel
theorem dX0_init_49 : decode cX0_init 49 = .ok (.putfield 27, 3) := by decide +kernel
theorem dX0_init_52 : decode cX0_init 52 = .ok (.aload_n 0, 1) := by decide +kernel
theorem dX0_init_53 : decode cX0_init 53 = .ok (.bipush 6, 2) := by decide +kernel
theorem dX0_init_55 : decode cX0_init 55 = .ok (.newarray .int, 2) := by decide +kernel
theorem dX0_init_57 : decode cX0_init 57 = .ok (.putfield 30, 3) := by decide +kernel
theorem dX0_init_60 : decode cX0_init 60 = .ok (.aload_n 0, 1) := by decide +kernel
theorem dX0_init_61 : decode cX0_init 61 = .ok (.iconst 2, 1) := by decide +kernel
theorem dX0_init_62 : decode cX0_init 62 = .ok (.newarray .int, 2) := by decide +kernel
theorem dX0_init_64 : decode cX0_init 64 = .ok (.dup, 1) := by decide +kernel
theorem dX0_init_65 : decode cX0_init 65 = .ok (.iconst 0, 1) := by decide +kernel
theorem dX0_init_66 : decode cX0_init 66 = .ok (.bipush 20, 2) := by decide +kernel
theorem dX0_init_68 : decode cX0_init 68 = .ok (.iastore, 1) := by decide +kernel
theorem dX0_init_69 : decode cX0_init 69 = .ok (.dup, 1) := by decide +kernel
theorem dX0_init_70 : decode cX0_init 70 = .ok (.iconst 1, 1) := by decide +kernel
theorem dX0_init_71 : decode cX0_init 71 = .ok (.iconst 3, 1) := by decide +kernel
theorem dX0_init_72 : decode cX0_init 72 = .ok (.iastore, 1) := by decide +kernel
theorem dX0_init_73 : decode cX0_init 73 = .ok (.putfield 33, 3) := by decide +kernel
theorem dX0_init_76 : decode cX0_init 76 = .ok (.return_, 1) := by decide +kernel
theorem dX0_place_0 : decode cX0_place 0 = .ok (.iload_n 0, 1) := by decide +kernel
theorem dX0_place_1 : decode cX0_place 1 = .ok (.bipush 6, 2) := by decide +kernel
theorem dX0_place_3 : decode cX0_place 3 = .ok (.imul, 1) := by decide +kernel
theorem dX0_place_4 : decode cX0_place 4 = .ok (.iload_n 1, 1) := by decide +kernel
theorem dX0_place_5 : decode cX0_place 5 = .ok (.iadd, 1) := by decide +kernel
theorem dX0_place_6 : decode cX0_place 6 = .ok (.ireturn, 1) := by decide +kernel
set_option maxRecDepth 20000 in
theorem ggX0_copyFrom_X0_copyRow : GoodIn wsX0_copyFrom wsX0_copyRow := goodIn_r _ [20, 21, 22, 23, 24, 25, 26, 27, 28] (by decide +kernel) (by decide +kernel)
set_option maxRecDepth 20000 in
theorem gX0_copyFrom_X0_copyRow : GoodIn wsX0_copyFrom (va_wsS RX0 36 yX0_copyRow wsX0_copyRow) := goodIn_app (goodIn_of _ (by decide +kernel)) ggX0_copyFrom_X0_copyRow
theorem dX0_copyFrom_0 : decode cX0_copyFrom 0 = .ok (.aload_n 1, 1) := by decide +kernel
theorem dX0_copyFrom_1 : decode cX0_copyFrom 1 = .ok (.getfield 9, 3) := by decide +kernel
theorem dX0_copyFrom_4 : decode cX0_copyFrom 4 = .ok (.aload_n 0, 1) := by decide +kernel
theorem dX0_copyFrom_5 : decode cX0_copyFrom 5 = .ok (.getfield 9, 3) := by decide +kernel
theorem dX0_copyFrom_8 : decode cX0_copyFrom 8 = .ok (.invokestatic 36, 3) := by decide +kernel
theorem dX0_copyFrom_11 : decode cX0_copyFrom 11 = .ok (.aload_n 1, 1) := by decide +kernel
theorem dX0_copyFrom_12 : decode cX0_copyFrom 12 = .ok (.getfield 15, 3) := by decide +kernel
theorem dX0_copyFrom_15 : decode cX0_copyFrom 15 = .ok (.aload_n 0, 1) := by decide +kernel
theorem dX0_copyFrom_16 : decode cX0_copyFrom 16 = .ok (.getfield 15, 3) := by decide +kernel
theorem dX0_copyFrom_19 : decode cX0_copyFrom 19 = .ok (.invokestatic 36, 3) := by decide +kernel
theorem dX0_copyFrom_22 : decode cX0_copyFrom 22 = .ok (.aload_n 1, 1) := by decide +kernel
theorem dX0_copyFrom_23 : decode cX0_copyFrom 23 = .ok (.getfield 18, 3) := by decide +kernel
theorem dX0_copyFrom_26 : decode cX0_copyFrom 26 = .ok (.aload_n 0, 1) := by decide +kernel
theorem dX0_copyFrom_27 : decode cX0_copyFrom 27 = .ok (.getfield 18, 3) := by decide +kernel
theorem dX0_copyFrom_30 : decode cX0_copyFrom 30 = .ok (.invokestatic 36, 3) := by decide +kernel
theorem dX0_copyFrom_33 : decode cX0_copyFrom 33 = .ok (.aload_n 1, 1) := by decide +kernel
theorem dX0_copyFrom_34 : decode cX0_copyFrom 34 = .ok (.getfield 21, 3) := by decide +kernel
theorem dX0_copyFrom_37 : decode cX0_copyFrom 37 = .ok (.aload_n 0, 1) := by decide +kernel
theorem dX0_copyFrom_38 : decode cX0_copyFrom 38 = .ok (.getfield 21, 3) := by decide +kernel
theorem dX0_copyFrom_41 : decode cX0_copyFrom 41 = .ok (.invokestatic 36, 3) := by decide +kernel
theorem dX0_copyFrom_44 : decode cX0_copyFrom 44 = .ok (.aload_n 1, 1) := by decide +kernel
theorem dX0_copyFrom_45 : decode cX0_copyFrom 45 = .ok (.getfield 24, 3) := by decide +kernel
theorem dX0_copyFrom_48 : decode cX0_copyFrom 48 = .ok (.aload_n 0, 1) := by decide +kernel
theorem dX0_copyFrom_49 : decode cX0_copyFrom 49 = .ok (.getfield 24, 3) := by decide +kernel
theorem dX0_copyFrom_52 : decode cX0_copyFrom 52 = .ok (.invokestatic 36, 3) := by decide +kernel
theorem dX0_copyFrom_55 : decode cX0_copyFrom 55 = .ok (.aload_n 1, 1) := by decide +kernel
theorem dX0_copyFrom_56 : decode cX0_copyFrom 56 = .ok (.getfield 27, 3) := by decide +kernel
theorem dX0_copyFrom_59 : decode cX0_copyFrom 59 = .ok (.aload_n 0, 1) := by decide +kernel
theorem dX0_copyFrom_60 : decode cX0_copyFrom 60 = .ok (.getfield 27, 3) := by decide +kernel
theorem dX0_copyFrom_63 : decode cX0_copyFrom 63 = .ok (.invokestatic 36, 3) := by decide +kernel
theorem dX0_copyFrom_66 : decode cX0_copyFrom 66 = .ok (.aload_n 1, 1) := by decide +kernel
theorem dX0_copyFrom_67 : decode cX0_copyFrom 67 = .ok (.getfield 30, 3) := by decide +kernel
theorem dX0_copyFrom_70 : decode cX0_copyFrom 70 = .ok (.aload_n 0, 1) := by decide +kernel
theorem dX0_copyFrom_71 : decode cX0_copyFrom 71 = .ok (.getfield 30, 3) := by decide +kernel
theorem dX0_copyFrom_74 : decode cX0_copyFrom 74 = .ok (.invokestatic 36, 3) := by decide +kernel
theorem dX0_copyFrom_77 : decode cX0_copyFrom 77 = .ok (.aload_n 1, 1) := by decide +kernel
theorem dX0_copyFrom_78 : decode cX0_copyFrom 78 = .ok (.getfield 33, 3) := by decide +kernel
theorem dX0_copyFrom_81 : decode cX0_copyFrom 81 = .ok (.aload_n 0, 1) := by decide +kernel
theorem dX0_copyFrom_82 : decode cX0_copyFrom 82 = .ok (.getfield 33, 3) := by decide +kernel
theorem dX0_copyFrom_85 : decode cX0_copyFrom 85 = .ok (.invokestatic 36, 3) := by decide +kernel
theorem dX0_copyFrom_88 : decode cX0_copyFrom 88 = .ok (.aload_n 0, 1) := by decide +kernel
theorem dX0_copyFrom_89 : decode cX0_copyFrom 89 = .ok (.aload_n 1, 1) := by decide +kernel
theorem dX0_copyFrom_90 : decode cX0_copyFrom 90 = .ok (.getfield 40, 3) := by decide +kernel
theorem dX0_copyFrom_93 : decode cX0_copyFrom 93 = .ok (.putfield 40, 3) := by decide +kernel
theorem dX0_copyFrom_96 : decode cX0_copyFrom 96 = .ok (.aload_n 0, 1) := by decide +kernel
theorem dX0_copyFrom_97 : decode cX0_copyFrom 97 = .ok (.aload_n 1, 1) := by decide +kernel
theorem dX0_copyFrom_98 : decode cX0_copyFrom 98 = .ok (.getfield 44, 3) := by decide +kernel
theorem dX0_copyFrom_101 : decode cX0_copyFrom 101 = .ok (.putfield 44, 3) := by decide +kernel
theorem dX0_copyFrom_104 : decode cX0_copyFrom 104 = .ok (.aload_n 0, 1) := by decide +kernel
theorem dX0_copyFrom_105 : decode cX0_copyFrom 105 = .ok (.aload_n 1, 1) := by decide +kernel
theorem dX0_copyFrom_106 : decode cX0_copyFrom 106 = .ok (.getfield 47, 3) := by decide +kernel
theorem dX0_copyFrom_109 : decode cX0_copyFrom 109 = .ok (.putfield 47, 3) := by decide +kernel
theorem dX0_copyFrom_112 : decode cX0_copyFrom 112 = .ok (.aload_n 0, 1) := by decide +kernel
theorem dX0_copyFrom_113 : decode cX0_copyFrom 113 = .ok (.aload_n 1, 1) := by decide +kernel
theorem dX0_copyFrom_114 : decode cX0_copyFrom 114 = .ok (.getfield 50, 3) := by decide +kernel
theorem dX0_copyFrom_117 : decode cX0_copyFrom 117 = .ok (.putfield 50, 3) := by decide +kernel
theorem dX0_copyFrom_120 : decode cX0_copyFrom 120 = .ok (.aload_n 0, 1) := by decide +kernel
theorem dX0_copyFrom_121 : decode cX0_copyFrom 121 = .ok (.aload_n 1, 1) := by decide +kernel
theorem dX0_copyFrom_122 : decode cX0_copyFrom 122 = .ok (.getfield 53, 3) := by decide +kernel
theorem dX0_copyFrom_125 : decode cX0_copyFrom 125 = .ok (.putfield 53, 3) := by decide +kernel
theorem dX0_copyFrom_128 : decode cX0_copyFrom 128 = .ok (.aload_n 0, 1) := by decide +kernel
theorem dX0_copyFrom_129 : decode cX0_copyFrom 129 = .ok (.aload_n 1, 1) := by decide +kernel
theorem dX0_copyFrom_130 : decode cX0_copyFrom 130 = .ok (.getfield 56, 3) := by decide +kernel
theorem dX0_copyFrom_133 : decode cX0_copyFrom 133 = .ok (.putfield 56, 3) := by decide +kernel
theorem dX0_copyFrom_136 : decode cX0_copyFrom 136 = .ok (.aload_n 0, 1) := by decide +kernel
theorem dX0_copyFrom_137 : decode cX0_copyFrom 137 = .ok (.aload_n 1, 1) := by decide +kernel
theorem dX0_copyFrom_138 : decode cX0_copyFrom 138 = .ok (.getfield 59, 3) := by decide +kernel
theorem dX0_copyFrom_141 : decode cX0_copyFrom 141 = .ok (.putfield 59, 3) := by decide +kernel
theorem dX0_copyFrom_144 : decode cX0_copyFrom 144 = .ok (.aload_n 0, 1) := by decide +kernel
theorem dX0_copyFrom_145 : decode cX0_copyFrom 145 = .ok (.aload_n 1, 1) := by decide +kernel
theorem dX0_copyFrom_146 : decode cX0_copyFrom 146 = .ok (.getfield 62, 3) := by decide +kernel
theorem dX0_copyFrom_149 : decode cX0_copyFrom 149 = .ok (.putfield 62, 3) := by decide +kernel
theorem dX0_copyFrom_152 : decode cX0_copyFrom 152 = .ok (.return_, 1) := by decide +kernel
theorem dX0_copyRow_0 : decode cX0_copyRow 0 = .ok (.aload_n 0, 1) := by decide +kernel
theorem dX0_copyRow_1 : decode cX0_copyRow 1 = .ok (.iconst 0, 1) := by decide +kernel
theorem dX0_copyRow_2 : decode cX0_copyRow 2 = .ok (.aload_n 1, 1) := by decide +kernel
theorem dX0_copyRow_3 : decode cX0_copyRow 3 = .ok (.iconst 0, 1) := by decide +kernel
theorem dX0_copyRow_4 : decode cX0_copyRow 4 = .ok (.aload_n 0, 1) := by decide +kernel
theorem dX0_copyRow_5 : decode cX0_copyRow 5 = .ok (.arraylength, 1) := by decide +kernel
theorem dX0_copyRow_6 : decode cX0_copyRow 6 = .ok (.aload_n 1, 1) := by decide +kernel
theorem dX0_copyRow_7 : decode cX0_copyRow 7 = .ok (.arraylength, 1) := by decide +kernel
theorem dX0_copyRow_8 : decode cX0_copyRow 8 = .ok (.invokestatic 65, 3) := by decide +kernel
theorem dX0_copyRow_11 : decode cX0_copyRow 11 = .ok (.invokestatic 71, 3) := by decide +kernel
theorem dX0_copyRow_14 : decode cX0_copyRow 14 = .ok (.return_, 1) := by decide +kernel
theorem dX0_allShares_0 : decode cX0_allShares 0 = .ok (.iconst 0, 1) := by decide +kernel
theorem dX0_allShares_1 : decode cX0_allShares 1 = .ok (.istore_n 1, 1) := by decide +kernel
theorem dX0_allShares_2 : decode cX0_allShares 2 = .ok (.aload_n 0, 1) := by decide +kernel
theorem dX0_allShares_3 : decode cX0_allShares 3 = .ok (.getfield 9, 3) := by decide +kernel
theorem dX0_allShares_6 : decode cX0_allShares 6 = .ok (.astore_n 2, 1) := by decide +kernel
theorem dX0_allShares_7 : decode cX0_allShares 7 = .ok (.aload_n 2, 1) := by decide +kernel
theorem dX0_allShares_8 : decode cX0_allShares 8 = .ok (.arraylength, 1) := by decide +kernel
theorem dX0_allShares_9 : decode cX0_allShares 9 = .ok (.istore_n 3, 1) := by decide +kernel
theorem dX0_allShares_10 : decode cX0_allShares 10 = .ok (.iconst 0, 1) := by decide +kernel
theorem dX0_allShares_11 : decode cX0_allShares 11 = .ok (.istore 4, 2) := by decide +kernel
theorem dX0_allShares_13 : decode cX0_allShares 13 = .ok (.iload 4, 2) := by decide +kernel
theorem dX0_allShares_15 : decode cX0_allShares 15 = .ok (.iload_n 3, 1) := by decide +kernel
theorem dX0_allShares_16 : decode cX0_allShares 16 = .ok (.if_icmp .ge 20, 3) := by decide +kernel
theorem dX0_allShares_19 : decode cX0_allShares 19 = .ok (.aload_n 2, 1) := by decide +kernel
theorem dX0_allShares_20 : decode cX0_allShares 20 = .ok (.iload 4, 2) := by decide +kernel
theorem dX0_allShares_22 : decode cX0_allShares 22 = .ok (.iaload, 1) := by decide +kernel
theorem dX0_allShares_23 : decode cX0_allShares 23 = .ok (.istore 5, 2) := by decide +kernel
theorem dX0_allShares_25 : decode cX0_allShares 25 = .ok (.iload_n 1, 1) := by decide +kernel
theorem dX0_allShares_26 : decode cX0_allShares 26 = .ok (.iload 5, 2) := by decide +kernel
theorem dX0_allShares_28 : decode cX0_allShares 28 = .ok (.iadd, 1) := by decide +kernel
theorem dX0_allShares_29 : decode cX0_allShares 29 = .ok (.istore_n 1, 1) := by decide +kernel
theorem dX0_allShares_30 : decode cX0_allShares 30 = .ok (.iinc 4 1, 3) := by decide +kernel
theorem dX0_allShares_33 : decode cX0_allShares 33 = .ok (.goto (-20), 3) := by decide +kernel
theorem dX0_allShares_36 : decode cX0_allShares 36 = .ok (.iload_n 1, 1) := by decide +kernel
theorem dX0_allShares_37 : decode cX0_allShares 37 = .ok (.ireturn, 1) := by decide +kernel
theorem dX0_allRests_0 : decode cX0_allRests 0 = .ok (.iconst 0, 1) := by decide +kernel
theorem dX0_allRests_1 : decode cX0_allRests 1 = .ok (.istore_n 1, 1) := by decide +kernel
theorem dX0_allRests_2 : decode cX0_allRests 2 = .ok (.aload_n 0, 1) := by decide +kernel
theorem dX0_allRests_3 : decode cX0_allRests 3 = .ok (.getfield 21, 3) := by decide +kernel
theorem dX0_allRests_6 : decode cX0_allRests 6 = .ok (.astore_n 2, 1) := by decide +kernel
theorem dX0_allRests_7 : decode cX0_allRests 7 = .ok (.aload_n 2, 1) := by decide +kernel
theorem dX0_allRests_8 : decode cX0_allRests 8 = .ok (.arraylength, 1) := by decide +kernel
theorem dX0_allRests_9 : decode cX0_allRests 9 = .ok (.istore_n 3, 1) := by decide +kernel
theorem dX0_allRests_10 : decode cX0_allRests 10 = .ok (.iconst 0, 1) := by decide +kernel
theorem dX0_allRests_11 : decode cX0_allRests 11 = .ok (.istore 4, 2) := by decide +kernel
theorem dX0_allRests_13 : decode cX0_allRests 13 = .ok (.iload 4, 2) := by decide +kernel
theorem dX0_allRests_15 : decode cX0_allRests 15 = .ok (.iload_n 3, 1) := by decide +kernel
theorem dX0_allRests_16 : decode cX0_allRests 16 = .ok (.if_icmp .ge 20, 3) := by decide +kernel
theorem dX0_allRests_19 : decode cX0_allRests 19 = .ok (.aload_n 2, 1) := by decide +kernel
theorem dX0_allRests_20 : decode cX0_allRests 20 = .ok (.iload 4, 2) := by decide +kernel
theorem dX0_allRests_22 : decode cX0_allRests 22 = .ok (.iaload, 1) := by decide +kernel
theorem dX0_allRests_23 : decode cX0_allRests 23 = .ok (.istore 5, 2) := by decide +kernel
theorem dX0_allRests_25 : decode cX0_allRests 25 = .ok (.iload_n 1, 1) := by decide +kernel
theorem dX0_allRests_26 : decode cX0_allRests 26 = .ok (.iload 5, 2) := by decide +kernel
theorem dX0_allRests_28 : decode cX0_allRests 28 = .ok (.iadd, 1) := by decide +kernel
theorem dX0_allRests_29 : decode cX0_allRests 29 = .ok (.istore_n 1, 1) := by decide +kernel
theorem dX0_allRests_30 : decode cX0_allRests 30 = .ok (.iinc 4 1, 3) := by decide +kernel
theorem dX0_allRests_33 : decode cX0_allRests 33 = .ok (.goto (-20), 3) := by decide +kernel
theorem dX0_allRests_36 : decode cX0_allRests 36 = .ok (.iload_n 1, 1) := by decide +kernel
theorem dX0_allRests_37 : decode cX0_allRests 37 = .ok (.ireturn, 1) := by decide +kernel
theorem dX0_allShareDays_0 : decode cX0_allShareDays 0 = .ok (.lconst 0, 1) := by decide +kernel
theorem dX0_allShareDays_1 : decode cX0_allShareDays 1 = .ok (.lstore_n 1, 1) := by decide +kernel
theorem dX0_allShareDays_2 : decode cX0_allShareDays 2 = .ok (.aload_n 0, 1) := by decide +kernel
theorem dX0_allShareDays_3 : decode cX0_allShareDays 3 = .ok (.getfield 15, 3) := by decide +kernel
theorem dX0_allShareDays_6 : decode cX0_allShareDays 6 = .ok (.astore_n 3, 1) := by decide +kernel
theorem dX0_allShareDays_7 : decode cX0_allShareDays 7 = .ok (.aload_n 3, 1) := by decide +kernel
theorem dX0_allShareDays_8 : decode cX0_allShareDays 8 = .ok (.arraylength, 1) := by decide +kernel
theorem dX0_allShareDays_9 : decode cX0_allShareDays 9 = .ok (.istore 4, 2) := by decide +kernel
theorem dX0_allShareDays_11 : decode cX0_allShareDays 11 = .ok (.iconst 0, 1) := by decide +kernel
theorem dX0_allShareDays_12 : decode cX0_allShareDays 12 = .ok (.istore 5, 2) := by decide +kernel
theorem dX0_allShareDays_14 : decode cX0_allShareDays 14 = .ok (.iload 5, 2) := by decide +kernel
theorem dX0_allShareDays_16 : decode cX0_allShareDays 16 = .ok (.iload 4, 2) := by decide +kernel
theorem dX0_allShareDays_18 : decode cX0_allShareDays 18 = .ok (.if_icmp .ge 21, 3) := by decide +kernel
theorem dX0_allShareDays_21 : decode cX0_allShareDays 21 = .ok (.aload_n 3, 1) := by decide +kernel
theorem dX0_allShareDays_22 : decode cX0_allShareDays 22 = .ok (.iload 5, 2) := by decide +kernel
theorem dX0_allShareDays_24 : decode cX0_allShareDays 24 = .ok (.iaload, 1) := by decide +kernel
theorem dX0_allShareDays_25 : decode cX0_allShareDays 25 = .ok (.istore 6, 2) := by decide +kernel
theorem dX0_allShareDays_27 : decode cX0_allShareDays 27 = .ok (.lload_n 1, 1) := by decide +kernel
theorem dX0_allShareDays_28 : decode cX0_allShareDays 28 = .ok (.iload 6, 2) := by decide +kernel
theorem dX0_allShareDays_30 : decode cX0_allShareDays 30 = .ok (.i2l, 1) := by decide +kernel
theorem dX0_allShareDays_31 : decode cX0_allShareDays 31 = .ok (.ladd, 1) := by decide +kernel
theorem dX0_allShareDays_32 : decode cX0_allShareDays 32 = .ok (.lstore_n 1, 1) := by decide +kernel
theorem dX0_allShareDays_33 : decode cX0_allShareDays 33 = .ok (.iinc 5 1, 3) := by decide +kernel
theorem dX0_allShareDays_36 : decode cX0_allShareDays 36 = .ok (.goto (-22), 3) := by decide +kernel
theorem dX0_allShareDays_39 : decode cX0_allShareDays 39 = .ok (.lload_n 1, 1) := by decide +kernel
theorem dX0_allShareDays_40 : decode cX0_allShareDays 40 = .ok (.lreturn, 1) := by decide +kernel
set_option maxRecDepth 20000 in
theorem ggX0_loans_X0_hasLoan : GoodIn wsX0_loans wsX0_hasLoan := goodIn_r _ [5, 6, 7, 8, 9, 10, 11, 12, 13, 14, 15, 16, 17, 18, 19, 20, 21, 22] (by decide +kernel) (by decide +kernel)
set_option maxRecDepth 20000 in
theorem gX0_loans_X0_hasLoan : GoodIn wsX0_loans (wsV RX0 77 RX0 yX0_hasLoan wsX0_hasLoan) := goodIn_app (goodIn_of _ (by decide +kernel)) ggX0_loans_X0_hasLoan
theorem dX0_loans_0 : decode cX0_loans 0 = .ok (.iconst 0, 1) := by decide +kernel
theorem dX0_loans_1 : decode cX0_loans 1 = .ok (.istore_n 1, 1) := by decide +kernel
theorem dX0_loans_2 : decode cX0_loans 2 = .ok (.iconst 0, 1) := by decide +kernel
theorem dX0_loans_3 : decode cX0_loans 3 = .ok (.istore_n 2, 1) := by decide +kernel
theorem dX0_loans_4 : decode cX0_loans 4 = .ok (.iload_n 2, 1) := by decide +kernel
theorem dX0_loans_5 : decode cX0_loans 5 = .ok (.bipush 6, 2) := by decide +kernel
theorem dX0_loans_7 : decode cX0_loans 7 = .ok (.if_icmp .ge 20, 3) := by decide +kernel
theorem dX0_loans_10 : decode cX0_loans 10 = .ok (.aload_n 0, 1) := by decide +kernel
theorem dX0_loans_11 : decode cX0_loans 11 = .ok (.iload_n 2, 1) := by decide +kernel
theorem dX0_loans_12 : decode cX0_loans 12 = .ok (.invokevirtual 77, 3) := by decide +kernel
theorem dX0_loans_15 : decode cX0_loans 15 = .ok (.ifCond .eq 6, 3) := by decide +kernel
theorem dX0_loans_18 : decode cX0_loans 18 = .ok (.iinc 1 1, 3) := by decide +kernel
theorem dX0_loans_21 : decode cX0_loans 21 = .ok (.iinc 2 1, 3) := by decide +kernel
theorem dX0_loans_24 : decode cX0_loans 24 = .ok (.goto (-20), 3) := by decide +kernel
theorem dX0_loans_27 : decode cX0_loans 27 = .ok (.iload_n 1, 1) := by decide +kernel
theorem dX0_loans_28 : decode cX0_loans 28 = .ok (.ireturn, 1) := by decide +kernel
theorem dX0_hasLoan_0 : decode cX0_hasLoan 0 = .ok (.aload_n 0, 1) := by decide +kernel
theorem dX0_hasLoan_1 : decode cX0_hasLoan 1 = .ok (.getfield 21, 3) := by decide +kernel
theorem dX0_hasLoan_4 : decode cX0_hasLoan 4 = .ok (.iload_n 1, 1) := by decide +kernel
theorem dX0_hasLoan_5 : decode cX0_hasLoan 5 = .ok (.iaload, 1) := by decide +kernel
theorem dX0_hasLoan_6 : decode cX0_hasLoan 6 = .ok (.ifCond .le 7, 3) := by decide +kernel
theorem dX0_hasLoan_9 : decode cX0_hasLoan 9 = .ok (.iconst 1, 1) := by decide +kernel
theorem dX0_hasLoan_10 : decode cX0_hasLoan 10 = .ok (.goto 4, 3) := by decide +kernel
theorem dX0_hasLoan_13 : decode cX0_hasLoan 13 = .ok (.iconst 0, 1) := by decide +kernel
theorem dX0_hasLoan_14 : decode cX0_hasLoan 14 = .ok (.ireturn, 1) := by decide +kernel
theorem dX0_pledgedBy_0 : decode cX0_pledgedBy 0 = .ok (.iconst 0, 1) := by decide +kernel
theorem dX0_pledgedBy_1 : decode cX0_pledgedBy 1 = .ok (.istore_n 2, 1) := by decide +kernel
theorem dX0_pledgedBy_2 : decode cX0_pledgedBy 2 = .ok (.iload_n 1, 1) := by decide +kernel
theorem dX0_pledgedBy_3 : decode cX0_pledgedBy 3 = .ok (.bipush 6, 2) := by decide +kernel
theorem dX0_pledgedBy_5 : decode cX0_pledgedBy 5 = .ok (.imul, 1) := by decide +kernel
theorem dX0_pledgedBy_6 : decode cX0_pledgedBy 6 = .ok (.istore_n 3, 1) := by decide +kernel
theorem dX0_pledgedBy_7 : decode cX0_pledgedBy 7 = .ok (.iconst 0, 1) := by decide +kernel
theorem dX0_pledgedBy_8 : decode cX0_pledgedBy 8 = .ok (.istore 4, 2) := by decide +kernel
theorem dX0_pledgedBy_10 : decode cX0_pledgedBy 10 = .ok (.iload 4, 2) := by decide +kernel
theorem dX0_pledgedBy_12 : decode cX0_pledgedBy 12 = .ok (.bipush 6, 2) := by decide +kernel
theorem dX0_pledgedBy_14 : decode cX0_pledgedBy 14 = .ok (.if_icmp .ge 21, 3) := by decide +kernel
theorem dX0_pledgedBy_17 : decode cX0_pledgedBy 17 = .ok (.iload_n 2, 1) := by decide +kernel
theorem dX0_pledgedBy_18 : decode cX0_pledgedBy 18 = .ok (.aload_n 0, 1) := by decide +kernel
theorem dX0_pledgedBy_19 : decode cX0_pledgedBy 19 = .ok (.getfield 18, 3) := by decide +kernel
theorem dX0_pledgedBy_22 : decode cX0_pledgedBy 22 = .ok (.iload_n 3, 1) := by decide +kernel
theorem dX0_pledgedBy_23 : decode cX0_pledgedBy 23 = .ok (.iload 4, 2) := by decide +kernel
theorem dX0_pledgedBy_25 : decode cX0_pledgedBy 25 = .ok (.iadd, 1) := by decide +kernel
theorem dX0_pledgedBy_26 : decode cX0_pledgedBy 26 = .ok (.iaload, 1) := by decide +kernel
theorem dX0_pledgedBy_27 : decode cX0_pledgedBy 27 = .ok (.iadd, 1) := by decide +kernel
theorem dX0_pledgedBy_28 : decode cX0_pledgedBy 28 = .ok (.istore_n 2, 1) := by decide +kernel
theorem dX0_pledgedBy_29 : decode cX0_pledgedBy 29 = .ok (.iinc 4 1, 3) := by decide +kernel
theorem dX0_pledgedBy_32 : decode cX0_pledgedBy 32 = .ok (.goto (-22), 3) := by decide +kernel
theorem dX0_pledgedBy_35 : decode cX0_pledgedBy 35 = .ok (.iload_n 2, 1) := by decide +kernel
theorem dX0_pledgedBy_36 : decode cX0_pledgedBy 36 = .ok (.ireturn, 1) := by decide +kernel
theorem dX0_pledgedFor_0 : decode cX0_pledgedFor 0 = .ok (.iconst 0, 1) := by decide +kernel
theorem dX0_pledgedFor_1 : decode cX0_pledgedFor 1 = .ok (.istore_n 2, 1) := by decide +kernel
theorem dX0_pledgedFor_2 : decode cX0_pledgedFor 2 = .ok (.iload_n 1, 1) := by decide +kernel
theorem dX0_pledgedFor_3 : decode cX0_pledgedFor 3 = .ok (.istore_n 3, 1) := by decide +kernel
theorem dX0_pledgedFor_4 : decode cX0_pledgedFor 4 = .ok (.iload_n 3, 1) := by decide +kernel
theorem dX0_pledgedFor_5 : decode cX0_pledgedFor 5 = .ok (.aload_n 0, 1) := by decide +kernel
theorem dX0_pledgedFor_6 : decode cX0_pledgedFor 6 = .ok (.getfield 18, 3) := by decide +kernel
theorem dX0_pledgedFor_9 : decode cX0_pledgedFor 9 = .ok (.arraylength, 1) := by decide +kernel
theorem dX0_pledgedFor_10 : decode cX0_pledgedFor 10 = .ok (.if_icmp .ge 18, 3) := by decide +kernel
theorem dX0_pledgedFor_13 : decode cX0_pledgedFor 13 = .ok (.iload_n 2, 1) := by decide +kernel
theorem dX0_pledgedFor_14 : decode cX0_pledgedFor 14 = .ok (.aload_n 0, 1) := by decide +kernel
theorem dX0_pledgedFor_15 : decode cX0_pledgedFor 15 = .ok (.getfield 18, 3) := by decide +kernel
theorem dX0_pledgedFor_18 : decode cX0_pledgedFor 18 = .ok (.iload_n 3, 1) := by decide +kernel
theorem dX0_pledgedFor_19 : decode cX0_pledgedFor 19 = .ok (.iaload, 1) := by decide +kernel
theorem dX0_pledgedFor_20 : decode cX0_pledgedFor 20 = .ok (.iadd, 1) := by decide +kernel
theorem dX0_pledgedFor_21 : decode cX0_pledgedFor 21 = .ok (.istore_n 2, 1) := by decide +kernel
theorem dX0_pledgedFor_22 : decode cX0_pledgedFor 22 = .ok (.iinc 3 6, 3) := by decide +kernel
theorem dX0_pledgedFor_25 : decode cX0_pledgedFor 25 = .ok (.goto (-21), 3) := by decide +kernel
theorem dX0_pledgedFor_28 : decode cX0_pledgedFor 28 = .ok (.iload_n 2, 1) := by decide +kernel
theorem dX0_pledgedFor_29 : decode cX0_pledgedFor 29 = .ok (.ireturn, 1) := by decide +kernel
set_option maxRecDepth 20000 in
theorem ggX0_ownLeft_X0_pledgedBy : GoodIn wsX0_ownLeft wsX0_pledgedBy := goodIn_r _ [6, 7, 8, 9, 10, 11, 12, 13, 14, 15, 16, 17, 18, 19, 20, 21, 22, 23] (by decide +kernel) (by decide +kernel)
set_option maxRecDepth 20000 in
theorem gX0_ownLeft_X0_pledgedBy : GoodIn wsX0_ownLeft (wsV RX0 81 RX0 yX0_pledgedBy wsX0_pledgedBy) := goodIn_app (goodIn_of _ (by decide +kernel)) ggX0_ownLeft_X0_pledgedBy
theorem dX0_ownLeft_0 : decode cX0_ownLeft 0 = .ok (.aload_n 0, 1) := by decide +kernel
theorem dX0_ownLeft_1 : decode cX0_ownLeft 1 = .ok (.getfield 9, 3) := by decide +kernel
theorem dX0_ownLeft_4 : decode cX0_ownLeft 4 = .ok (.iload_n 1, 1) := by decide +kernel
theorem dX0_ownLeft_5 : decode cX0_ownLeft 5 = .ok (.iaload, 1) := by decide +kernel
theorem dX0_ownLeft_6 : decode cX0_ownLeft 6 = .ok (.aload_n 0, 1) := by decide +kernel
theorem dX0_ownLeft_7 : decode cX0_ownLeft 7 = .ok (.iload_n 1, 1) := by decide +kernel
theorem dX0_ownLeft_8 : decode cX0_ownLeft 8 = .ok (.invokevirtual 81, 3) := by decide +kernel
theorem dX0_ownLeft_11 : decode cX0_ownLeft 11 = .ok (.isub, 1) := by decide +kernel
theorem dX0_ownLeft_12 : decode cX0_ownLeft 12 = .ok (.ireturn, 1) := by decide +kernel
set_option maxRecDepth 20000 in
theorem ggX0_cover_X0_ownLeft : GoodIn wsX0_cover wsX0_ownLeft := goodIn_r _ [5, 6, 7, 8, 9, 4, 10, 11, 16, 17, 18, 19, 20, 21, 22, 23, 24, 25, 26, 27, 28, 29, 30, 31] (by decide +kernel) (by decide +kernel)
set_option maxRecDepth 20000 in
theorem gX0_cover_X0_ownLeft : GoodIn wsX0_cover (wsV RX0 85 RX0 yX0_ownLeft wsX0_ownLeft) := goodIn_app (goodIn_of _ (by decide +kernel)) ggX0_cover_X0_ownLeft
set_option maxRecDepth 20000 in
theorem ggX0_cover_X0_pledgedFor : GoodIn wsX0_cover wsX0_pledgedFor := goodIn_r _ [15, 11, 16, 17, 18, 19, 20, 21, 22, 23, 24, 25, 26, 27, 28, 29, 30, 31] (by decide +kernel) (by decide +kernel)
set_option maxRecDepth 20000 in
theorem gX0_cover_X0_pledgedFor : GoodIn wsX0_cover (wsV RX0 88 RX0 yX0_pledgedFor wsX0_pledgedFor) := goodIn_app (goodIn_of _ (by decide +kernel)) ggX0_cover_X0_pledgedFor
theorem dX0_cover_0 : decode cX0_cover 0 = .ok (.aload_n 0, 1) := by decide +kernel
theorem dX0_cover_1 : decode cX0_cover 1 = .ok (.iload_n 1, 1) := by decide +kernel
theorem dX0_cover_2 : decode cX0_cover 2 = .ok (.invokevirtual 85, 3) := by decide +kernel
theorem dX0_cover_5 : decode cX0_cover 5 = .ok (.aload_n 0, 1) := by decide +kernel
theorem dX0_cover_6 : decode cX0_cover 6 = .ok (.iload_n 1, 1) := by decide +kernel
theorem dX0_cover_7 : decode cX0_cover 7 = .ok (.invokevirtual 88, 3) := by decide +kernel
theorem dX0_cover_10 : decode cX0_cover 10 = .ok (.iadd, 1) := by decide +kernel
theorem dX0_cover_11 : decode cX0_cover 11 = .ok (.ireturn, 1) := by decide +kernel
set_option maxRecDepth 20000 in
theorem ggX0_freeShares_X0_ownLeft : GoodIn wsX0_freeShares wsX0_ownLeft := goodIn_r _ [10, 11, 12, 13, 14, 9, 15, 16, 21, 22, 23, 24, 25, 26, 27, 28, 29, 30, 31, 32, 33, 34, 35, 36] (by decide +kernel) (by decide +kernel)
set_option maxRecDepth 20000 in
theorem gX0_freeShares_X0_ownLeft : GoodIn wsX0_freeShares (wsV RX0 85 RX0 yX0_ownLeft wsX0_ownLeft) := goodIn_app (goodIn_of _ (by decide +kernel)) ggX0_freeShares_X0_ownLeft
set_option maxRecDepth 20000 in
theorem ggX0_freeShares_X0_pledgedFor : GoodIn wsX0_freeShares wsX0_pledgedFor := goodIn_r _ [20, 16, 21, 22, 23, 24, 25, 26, 27, 28, 29, 30, 31, 32, 33, 34, 35, 36] (by decide +kernel) (by decide +kernel)
set_option maxRecDepth 20000 in
theorem gX0_freeShares_X0_pledgedFor : GoodIn wsX0_freeShares (wsV RX0 88 RX0 yX0_pledgedFor wsX0_pledgedFor) := goodIn_app (goodIn_of _ (by decide +kernel)) ggX0_freeShares_X0_pledgedFor
theorem dX0_freeShares_0 : decode cX0_freeShares 0 = .ok (.aload_n 0, 1) := by decide +kernel
theorem dX0_freeShares_1 : decode cX0_freeShares 1 = .ok (.iload_n 1, 1) := by decide +kernel
theorem dX0_freeShares_2 : decode cX0_freeShares 2 = .ok (.invokevirtual 85, 3) := by decide +kernel
theorem dX0_freeShares_5 : decode cX0_freeShares 5 = .ok (.iconst 0, 1) := by decide +kernel
theorem dX0_freeShares_6 : decode cX0_freeShares 6 = .ok (.aload_n 0, 1) := by decide +kernel
theorem dX0_freeShares_7 : decode cX0_freeShares 7 = .ok (.getfield 21, 3) := by decide +kernel
theorem dX0_freeShares_10 : decode cX0_freeShares 10 = .ok (.iload_n 1, 1) := by decide +kernel
theorem dX0_freeShares_11 : decode cX0_freeShares 11 = .ok (.iaload, 1) := by decide +kernel
theorem dX0_freeShares_12 : decode cX0_freeShares 12 = .ok (.aload_n 0, 1) := by decide +kernel
theorem dX0_freeShares_13 : decode cX0_freeShares 13 = .ok (.iload_n 1, 1) := by decide +kernel
theorem dX0_freeShares_14 : decode cX0_freeShares 14 = .ok (.invokevirtual 88, 3) := by decide +kernel
theorem dX0_freeShares_17 : decode cX0_freeShares 17 = .ok (.isub, 1) := by decide +kernel
theorem dX0_freeShares_18 : decode cX0_freeShares 18 = .ok (.invokestatic 91, 3) := by decide +kernel
theorem dX0_freeShares_21 : decode cX0_freeShares 21 = .ok (.isub, 1) := by decide +kernel
theorem dX0_freeShares_22 : decode cX0_freeShares 22 = .ok (.ireturn, 1) := by decide +kernel
set_option maxRecDepth 20000 in
theorem ggX0_property_X0_pledgedBy : GoodIn wsX0_property wsX0_pledgedBy := goodIn_r _ [11, 12, 37, 38, 39, 40, 41, 42, 43, 44, 45, 46, 47, 48, 49, 50, 51, 52] (by decide +kernel) (by decide +kernel)
set_option maxRecDepth 20000 in
theorem gX0_property_X0_pledgedBy : GoodIn wsX0_property (wsV RX0 81 RX0 yX0_pledgedBy wsX0_pledgedBy) := goodIn_app (goodIn_of _ (by decide +kernel)) ggX0_property_X0_pledgedBy
set_option maxRecDepth 20000 in
theorem ggX0_property_X0_pledgedFor : GoodIn wsX0_property wsX0_pledgedFor := goodIn_r _ [16, 12, 37, 38, 39, 40, 41, 42, 43, 44, 45, 46, 47, 48, 49, 50, 51, 52] (by decide +kernel) (by decide +kernel)
set_option maxRecDepth 20000 in
theorem gX0_property_X0_pledgedFor : GoodIn wsX0_property (wsV RX0 88 RX0 yX0_pledgedFor wsX0_pledgedFor) := goodIn_app (goodIn_of _ (by decide +kernel)) ggX0_property_X0_pledgedFor
set_option maxRecDepth 20000 in
theorem ggX0_property_X0_cover : GoodIn wsX0_property wsX0_cover := goodIn_r _ [20, 21, 22, 23, 10, 24, 1, 7, 8, 9, 11, 12, 13, 14, 15, 16, 37, 38, 39, 40, 41, 42, 43, 44, 45, 46, 47, 48, 49, 50, 51, 52] (by decide +kernel) (by decide +kernel)
set_option maxRecDepth 20000 in
theorem gX0_property_X0_cover : GoodIn wsX0_property (wsV RX0 94 RX0 yX0_cover wsX0_cover) := goodIn_app (goodIn_of _ (by decide +kernel)) ggX0_property_X0_cover
set_option maxRecDepth 20000 in
theorem ggX0_property_X0_freeShares : GoodIn wsX0_property wsX0_freeShares := goodIn_r _ [28, 3, 29, 30, 31, 32, 21, 22, 23, 10, 24, 1, 7, 8, 9, 11, 12, 13, 14, 15, 16, 37, 38, 39, 40, 41, 42, 43, 44, 45, 46, 47, 48, 49, 50, 51, 52] (by decide +kernel) (by decide +kernel)
set_option maxRecDepth 20000 in
theorem gX0_property_X0_freeShares : GoodIn wsX0_property (wsV RX0 97 RX0 yX0_freeShares wsX0_freeShares) := goodIn_app (goodIn_of _ (by decide +kernel)) ggX0_property_X0_freeShares
set_option maxRecDepth 20000 in
theorem ggX0_property_X0_hasLoan : GoodIn wsX0_property wsX0_hasLoan := goodIn_r _ [36, 3, 37, 38, 39, 40, 41, 42, 43, 44, 45, 46, 47, 48, 49, 50, 51, 52] (by decide +kernel) (by decide +kernel)
set_option maxRecDepth 20000 in
theorem gX0_property_X0_hasLoan : GoodIn wsX0_property (wsV RX0 77 RX0 yX0_hasLoan wsX0_hasLoan) := goodIn_app (goodIn_of _ (by decide +kernel)) ggX0_property_X0_hasLoan
theorem dX0_property_0 : decode cX0_property 0 = .ok (.iload_n 2, 1) := by decide +kernel
theorem dX0_property_1 : decode cX0_property 1 = .ok (.tableswitch 134 0 8 #[51, 58, 64, 70, 76, 82, 89, 96, 115], 51) := by decide +kernel
theorem dX0_property_52 : decode cX0_property 52 = .ok (.aload_n 0, 1) := by decide +kernel
theorem dX0_property_53 : decode cX0_property 53 = .ok (.getfield 9, 3) := by decide +kernel
theorem dX0_property_56 : decode cX0_property 56 = .ok (.iload_n 1, 1) := by decide +kernel
theorem dX0_property_57 : decode cX0_property 57 = .ok (.iaload, 1) := by decide +kernel
theorem dX0_property_58 : decode cX0_property 58 = .ok (.ireturn, 1) := by decide +kernel
theorem dX0_property_59 : decode cX0_property 59 = .ok (.aload_n 0, 1) := by decide +kernel
theorem dX0_property_60 : decode cX0_property 60 = .ok (.iload_n 1, 1) := by decide +kernel
theorem dX0_property_61 : decode cX0_property 61 = .ok (.invokevirtual 81, 3) := by decide +kernel
theorem dX0_property_64 : decode cX0_property 64 = .ok (.ireturn, 1) := by decide +kernel
theorem dX0_property_65 : decode cX0_property 65 = .ok (.aload_n 0, 1) := by decide +kernel
theorem dX0_property_66 : decode cX0_property 66 = .ok (.iload_n 1, 1) := by decide +kernel
theorem dX0_property_67 : decode cX0_property 67 = .ok (.invokevirtual 88, 3) := by decide +kernel
theorem dX0_property_70 : decode cX0_property 70 = .ok (.ireturn, 1) := by decide +kernel
theorem dX0_property_71 : decode cX0_property 71 = .ok (.aload_n 0, 1) := by decide +kernel
theorem dX0_property_72 : decode cX0_property 72 = .ok (.iload_n 1, 1) := by decide +kernel
theorem dX0_property_73 : decode cX0_property 73 = .ok (.invokevirtual 94, 3) := by decide +kernel
theorem dX0_property_76 : decode cX0_property 76 = .ok (.ireturn, 1) := by decide +kernel
theorem dX0_property_77 : decode cX0_property 77 = .ok (.aload_n 0, 1) := by decide +kernel
theorem dX0_property_78 : decode cX0_property 78 = .ok (.iload_n 1, 1) := by decide +kernel
theorem dX0_property_79 : decode cX0_property 79 = .ok (.invokevirtual 97, 3) := by decide +kernel
theorem dX0_property_82 : decode cX0_property 82 = .ok (.ireturn, 1) := by decide +kernel
theorem dX0_property_83 : decode cX0_property 83 = .ok (.aload_n 0, 1) := by decide +kernel
theorem dX0_property_84 : decode cX0_property 84 = .ok (.getfield 15, 3) := by decide +kernel
theorem dX0_property_87 : decode cX0_property 87 = .ok (.iload_n 1, 1) := by decide +kernel
theorem dX0_property_88 : decode cX0_property 88 = .ok (.iaload, 1) := by decide +kernel
theorem dX0_property_89 : decode cX0_property 89 = .ok (.ireturn, 1) := by decide +kernel
theorem dX0_property_90 : decode cX0_property 90 = .ok (.aload_n 0, 1) := by decide +kernel
theorem dX0_property_91 : decode cX0_property 91 = .ok (.getfield 21, 3) := by decide +kernel
theorem dX0_property_94 : decode cX0_property 94 = .ok (.iload_n 1, 1) := by decide +kernel
theorem dX0_property_95 : decode cX0_property 95 = .ok (.iaload, 1) := by decide +kernel
theorem dX0_property_96 : decode cX0_property 96 = .ok (.ireturn, 1) := by decide +kernel
theorem dX0_property_97 : decode cX0_property 97 = .ok (.aload_n 0, 1) := by decide +kernel
theorem dX0_property_98 : decode cX0_property 98 = .ok (.iload_n 1, 1) := by decide +kernel
theorem dX0_property_99 : decode cX0_property 99 = .ok (.invokevirtual 77, 3) := by decide +kernel
theorem dX0_property_102 : decode cX0_property 102 = .ok (.ifCond .eq 12, 3) := by decide +kernel
theorem dX0_property_105 : decode cX0_property 105 = .ok (.aload_n 0, 1) := by decide +kernel
theorem dX0_property_106 : decode cX0_property 106 = .ok (.getfield 24, 3) := by decide +kernel
theorem dX0_property_109 : decode cX0_property 109 = .ok (.iload_n 1, 1) := by decide +kernel
theorem dX0_property_110 : decode cX0_property 110 = .ok (.iaload, 1) := by decide +kernel
theorem dX0_property_111 : decode cX0_property 111 = .ok (.goto 4, 3) := by decide +kernel
theorem dX0_property_114 : decode cX0_property 114 = .ok (.iconst (-1), 1) := by decide +kernel
theorem dX0_property_115 : decode cX0_property 115 = .ok (.ireturn, 1) := by decide +kernel
theorem dX0_property_116 : decode cX0_property 116 = .ok (.aload_n 0, 1) := by decide +kernel
theorem dX0_property_117 : decode cX0_property 117 = .ok (.iload_n 1, 1) := by decide +kernel
theorem dX0_property_118 : decode cX0_property 118 = .ok (.invokevirtual 77, 3) := by decide +kernel
theorem dX0_property_121 : decode cX0_property 121 = .ok (.ifCond .eq 12, 3) := by decide +kernel
theorem dX0_property_124 : decode cX0_property 124 = .ok (.aload_n 0, 1) := by decide +kernel
theorem dX0_property_125 : decode cX0_property 125 = .ok (.getfield 27, 3) := by decide +kernel
theorem dX0_property_128 : decode cX0_property 128 = .ok (.iload_n 1, 1) := by decide +kernel
theorem dX0_property_129 : decode cX0_property 129 = .ok (.iaload, 1) := by decide +kernel
theorem dX0_property_130 : decode cX0_property 130 = .ok (.goto 4, 3) := by decide +kernel
theorem dX0_property_133 : decode cX0_property 133 = .ok (.iconst (-1), 1) := by decide +kernel
theorem dX0_property_134 : decode cX0_property 134 = .ok (.ireturn, 1) := by decide +kernel
theorem dX0_property_135 : decode cX0_property 135 = .ok (.aload_n 0, 1) := by decide +kernel
theorem dX0_property_136 : decode cX0_property 136 = .ok (.iload_n 1, 1) := by decide +kernel
theorem dX0_property_137 : decode cX0_property 137 = .ok (.invokevirtual 77, 3) := by decide +kernel
theorem dX0_property_140 : decode cX0_property 140 = .ok (.ifCond .eq 12, 3) := by decide +kernel
theorem dX0_property_143 : decode cX0_property 143 = .ok (.aload_n 0, 1) := by decide +kernel
theorem dX0_property_144 : decode cX0_property 144 = .ok (.getfield 30, 3) := by decide +kernel
theorem dX0_property_147 : decode cX0_property 147 = .ok (.iload_n 1, 1) := by decide +kernel
theorem dX0_property_148 : decode cX0_property 148 = .ok (.iaload, 1) := by decide +kernel
theorem dX0_property_149 : decode cX0_property 149 = .ok (.goto 4, 3) := by decide +kernel
theorem dX0_property_152 : decode cX0_property 152 = .ok (.iconst (-1), 1) := by decide +kernel
theorem dX0_property_153 : decode cX0_property 153 = .ok (.ireturn, 1) := by decide +kernel
theorem dX0_takeIn_0 : decode cX0_takeIn 0 = .ok (.aload_n 0, 1) := by decide +kernel
theorem dX0_takeIn_1 : decode cX0_takeIn 1 = .ok (.getfield 9, 3) := by decide +kernel
theorem dX0_takeIn_4 : decode cX0_takeIn 4 = .ok (.iload_n 1, 1) := by decide +kernel
theorem dX0_takeIn_5 : decode cX0_takeIn 5 = .ok (.iaload, 1) := by decide +kernel
theorem dX0_takeIn_6 : decode cX0_takeIn 6 = .ok (.iload_n 2, 1) := by decide +kernel
theorem dX0_takeIn_7 : decode cX0_takeIn 7 = .ok (.iadd, 1) := by decide +kernel
theorem dX0_takeIn_8 : decode cX0_takeIn 8 = .ok (.istore_n 3, 1) := by decide +kernel
theorem dX0_takeIn_9 : decode cX0_takeIn 9 = .ok (.iload_n 3, 1) := by decide +kernel
theorem dX0_takeIn_10 : decode cX0_takeIn 10 = .ok (.ldc 100, 2) := by decide +kernel
theorem dX0_takeIn_12 : decode cX0_takeIn 12 = .ok (.if_icmp .le 15, 3) := by decide +kernel
theorem dX0_takeIn_15 : decode cX0_takeIn 15 = .ok (.aload_n 0, 1) := by decide +kernel
theorem dX0_takeIn_16 : decode cX0_takeIn 16 = .ok (.dup, 1) := by decide +kernel
theorem dX0_takeIn_17 : decode cX0_takeIn 17 = .ok (.getfield 59, 3) := by decide +kernel
theorem dX0_takeIn_20 : decode cX0_takeIn 20 = .ok (.iconst 1, 1) := by decide +kernel
theorem dX0_takeIn_21 : decode cX0_takeIn 21 = .ok (.iadd, 1) := by decide +kernel
theorem dX0_takeIn_22 : decode cX0_takeIn 22 = .ok (.putfield 59, 3) := by decide +kernel
theorem dX0_takeIn_25 : decode cX0_takeIn 25 = .ok (.iconst (-1), 1) := by decide +kernel
theorem dX0_takeIn_26 : decode cX0_takeIn 26 = .ok (.ireturn, 1) := by decide +kernel
theorem dX0_takeIn_27 : decode cX0_takeIn 27 = .ok (.aload_n 0, 1) := by decide +kernel
theorem dX0_takeIn_28 : decode cX0_takeIn 28 = .ok (.getfield 9, 3) := by decide +kernel
theorem dX0_takeIn_31 : decode cX0_takeIn 31 = .ok (.iload_n 1, 1) := by decide +kernel
theorem dX0_takeIn_32 : decode cX0_takeIn 32 = .ok (.iload_n 3, 1) := by decide +kernel
theorem dX0_takeIn_33 : decode cX0_takeIn 33 = .ok (.iastore, 1) := by decide +kernel
theorem dX0_takeIn_34 : decode cX0_takeIn 34 = .ok (.aload_n 0, 1) := by decide +kernel
theorem dX0_takeIn_35 : decode cX0_takeIn 35 = .ok (.dup, 1) := by decide +kernel
theorem dX0_takeIn_36 : decode cX0_takeIn 36 = .ok (.getfield 40, 3) := by decide +kernel
theorem dX0_takeIn_39 : decode cX0_takeIn 39 = .ok (.iload_n 2, 1) := by decide +kernel
theorem dX0_takeIn_40 : decode cX0_takeIn 40 = .ok (.iadd, 1) := by decide +kernel
theorem dX0_takeIn_41 : decode cX0_takeIn 41 = .ok (.putfield 40, 3) := by decide +kernel
theorem dX0_takeIn_44 : decode cX0_takeIn 44 = .ok (.iload_n 3, 1) := by decide +kernel
theorem dX0_takeIn_45 : decode cX0_takeIn 45 = .ok (.ireturn, 1) := by decide +kernel
set_option maxRecDepth 20000 in
theorem ggX0_giveOut_X0_freeShares : GoodIn wsX0_giveOut wsX0_freeShares := goodIn_r _ [8, 9, 10, 11, 12, 13, 14, 15, 16, 7, 17, 3, 18, 19, 20, 21, 22, 23, 24, 25, 26, 27, 28, 29, 30, 31, 32, 33, 34, 35, 36, 37, 38, 39, 40, 41, 42] (by decide +kernel) (by decide +kernel)
set_option maxRecDepth 20000 in
theorem gX0_giveOut_X0_freeShares : GoodIn wsX0_giveOut (wsV RX0 97 RX0 yX0_freeShares wsX0_freeShares) := goodIn_app (goodIn_of _ (by decide +kernel)) ggX0_giveOut_X0_freeShares
theorem dX0_giveOut_0 : decode cX0_giveOut 0 = .ok (.iload_n 2, 1) := by decide +kernel
theorem dX0_giveOut_1 : decode cX0_giveOut 1 = .ok (.aload_n 0, 1) := by decide +kernel
theorem dX0_giveOut_2 : decode cX0_giveOut 2 = .ok (.iload_n 1, 1) := by decide +kernel
theorem dX0_giveOut_3 : decode cX0_giveOut 3 = .ok (.invokevirtual 97, 3) := by decide +kernel
theorem dX0_giveOut_6 : decode cX0_giveOut 6 = .ok (.if_icmp .le 15, 3) := by decide +kernel
theorem dX0_giveOut_9 : decode cX0_giveOut 9 = .ok (.aload_n 0, 1) := by decide +kernel
theorem dX0_giveOut_10 : decode cX0_giveOut 10 = .ok (.dup, 1) := by decide +kernel
theorem dX0_giveOut_11 : decode cX0_giveOut 11 = .ok (.getfield 59, 3) := by decide +kernel
theorem dX0_giveOut_14 : decode cX0_giveOut 14 = .ok (.iconst 1, 1) := by decide +kernel
theorem dX0_giveOut_15 : decode cX0_giveOut 15 = .ok (.iadd, 1) := by decide +kernel
theorem dX0_giveOut_16 : decode cX0_giveOut 16 = .ok (.putfield 59, 3) := by decide +kernel
theorem dX0_giveOut_19 : decode cX0_giveOut 19 = .ok (.iconst 1, 1) := by decide +kernel
theorem dX0_giveOut_20 : decode cX0_giveOut 20 = .ok (.ireturn, 1) := by decide +kernel
theorem dX0_giveOut_21 : decode cX0_giveOut 21 = .ok (.iload_n 2, 1) := by decide +kernel
theorem dX0_giveOut_22 : decode cX0_giveOut 22 = .ok (.aload_n 0, 1) := by decide +kernel
theorem dX0_giveOut_23 : decode cX0_giveOut 23 = .ok (.getfield 40, 3) := by decide +kernel
theorem dX0_giveOut_26 : decode cX0_giveOut 26 = .ok (.if_icmp .le 15, 3) := by decide +kernel
theorem dX0_giveOut_29 : decode cX0_giveOut 29 = .ok (.aload_n 0, 1) := by decide +kernel
theorem dX0_giveOut_30 : decode cX0_giveOut 30 = .ok (.dup, 1) := by decide +kernel
theorem dX0_giveOut_31 : decode cX0_giveOut 31 = .ok (.getfield 59, 3) := by decide +kernel
theorem dX0_giveOut_34 : decode cX0_giveOut 34 = .ok (.iconst 1, 1) := by decide +kernel
theorem dX0_giveOut_35 : decode cX0_giveOut 35 = .ok (.iadd, 1) := by decide +kernel
theorem dX0_giveOut_36 : decode cX0_giveOut 36 = .ok (.putfield 59, 3) := by decide +kernel
theorem dX0_giveOut_39 : decode cX0_giveOut 39 = .ok (.iconst 2, 1) := by decide +kernel
theorem dX0_giveOut_40 : decode cX0_giveOut 40 = .ok (.ireturn, 1) := by decide +kernel
theorem dX0_giveOut_41 : decode cX0_giveOut 41 = .ok (.aload_n 0, 1) := by decide +kernel
theorem dX0_giveOut_42 : decode cX0_giveOut 42 = .ok (.getfield 9, 3) := by decide +kernel
theorem dX0_giveOut_45 : decode cX0_giveOut 45 = .ok (.iload_n 1, 1) := by decide +kernel
theorem dX0_giveOut_46 : decode cX0_giveOut 46 = .ok (.dup2, 1) := by decide +kernel
theorem dX0_giveOut_47 : decode cX0_giveOut 47 = .ok (.iaload, 1) := by decide +kernel
theorem dX0_giveOut_48 : decode cX0_giveOut 48 = .ok (.iload_n 2, 1) := by decide +kernel
theorem dX0_giveOut_49 : decode cX0_giveOut 49 = .ok (.isub, 1) := by decide +kernel
theorem dX0_giveOut_50 : decode cX0_giveOut 50 = .ok (.iastore, 1) := by decide +kernel
theorem dX0_giveOut_51 : decode cX0_giveOut 51 = .ok (.aload_n 0, 1) := by decide +kernel
theorem dX0_giveOut_52 : decode cX0_giveOut 52 = .ok (.dup, 1) := by decide +kernel
theorem dX0_giveOut_53 : decode cX0_giveOut 53 = .ok (.getfield 40, 3) := by decide +kernel
theorem dX0_giveOut_56 : decode cX0_giveOut 56 = .ok (.iload_n 2, 1) := by decide +kernel
theorem dX0_giveOut_57 : decode cX0_giveOut 57 = .ok (.isub, 1) := by decide +kernel
theorem dX0_giveOut_58 : decode cX0_giveOut 58 = .ok (.putfield 40, 3) := by decide +kernel
theorem dX0_giveOut_61 : decode cX0_giveOut 61 = .ok (.iconst 0, 1) := by decide +kernel
theorem dX0_giveOut_62 : decode cX0_giveOut 62 = .ok (.ireturn, 1) := by decide +kernel
set_option maxRecDepth 20000 in
theorem ggX0_addPledge_X0_freeShares : GoodIn wsX0_addPledge wsX0_freeShares := goodIn_r _ [7, 8, 9, 10, 11, 12, 13, 14, 15, 6, 16, 17, 18, 19, 20, 21, 2, 22, 23, 24, 25, 29, 30, 31, 32, 33, 34, 35, 36, 37, 38, 39, 40, 41, 42, 43, 44] (by decide +kernel) (by decide +kernel)
set_option maxRecDepth 20000 in
theorem gX0_addPledge_X0_freeShares : GoodIn wsX0_addPledge (wsV RX0 97 RX0 yX0_freeShares wsX0_freeShares) := goodIn_app (goodIn_of _ (by decide +kernel)) ggX0_addPledge_X0_freeShares
set_option maxRecDepth 20000 in
theorem ggX0_addPledge_X0_place : GoodIn wsX0_addPledge wsX0_place := goodIn_r _ [28] (by decide +kernel) (by decide +kernel)
set_option maxRecDepth 20000 in
theorem gX0_addPledge_X0_place : GoodIn wsX0_addPledge (va_wsS RX0 101 yX0_place wsX0_place) := goodIn_app (goodIn_of _ (by decide +kernel)) ggX0_addPledge_X0_place
theorem dX0_addPledge_0 : decode cX0_addPledge 0 = .ok (.iload_n 3, 1) := by decide +kernel
theorem dX0_addPledge_1 : decode cX0_addPledge 1 = .ok (.aload_n 0, 1) := by decide +kernel
theorem dX0_addPledge_2 : decode cX0_addPledge 2 = .ok (.iload_n 1, 1) := by decide +kernel
theorem dX0_addPledge_3 : decode cX0_addPledge 3 = .ok (.invokevirtual 97, 3) := by decide +kernel
theorem dX0_addPledge_6 : decode cX0_addPledge 6 = .ok (.if_icmp .le 15, 3) := by decide +kernel
theorem dX0_addPledge_9 : decode cX0_addPledge 9 = .ok (.aload_n 0, 1) := by decide +kernel
theorem dX0_addPledge_10 : decode cX0_addPledge 10 = .ok (.dup, 1) := by decide +kernel
theorem dX0_addPledge_11 : decode cX0_addPledge 11 = .ok (.getfield 59, 3) := by decide +kernel
theorem dX0_addPledge_14 : decode cX0_addPledge 14 = .ok (.iconst 1, 1) := by decide +kernel
theorem dX0_addPledge_15 : decode cX0_addPledge 15 = .ok (.iadd, 1) := by decide +kernel
theorem dX0_addPledge_16 : decode cX0_addPledge 16 = .ok (.putfield 59, 3) := by decide +kernel
theorem dX0_addPledge_19 : decode cX0_addPledge 19 = .ok (.iconst (-1), 1) := by decide +kernel
theorem dX0_addPledge_20 : decode cX0_addPledge 20 = .ok (.ireturn, 1) := by decide +kernel
theorem dX0_addPledge_21 : decode cX0_addPledge 21 = .ok (.iload_n 1, 1) := by decide +kernel
theorem dX0_addPledge_22 : decode cX0_addPledge 22 = .ok (.iload_n 2, 1) := by decide +kernel
theorem dX0_addPledge_23 : decode cX0_addPledge 23 = .ok (.invokestatic 101, 3) := by decide +kernel
theorem dX0_addPledge_26 : decode cX0_addPledge 26 = .ok (.istore 4, 2) := by decide +kernel
theorem dX0_addPledge_28 : decode cX0_addPledge 28 = .ok (.aload_n 0, 1) := by decide +kernel
theorem dX0_addPledge_29 : decode cX0_addPledge 29 = .ok (.getfield 18, 3) := by decide +kernel
theorem dX0_addPledge_32 : decode cX0_addPledge 32 = .ok (.iload 4, 2) := by decide +kernel
theorem dX0_addPledge_34 : decode cX0_addPledge 34 = .ok (.dup2, 1) := by decide +kernel
theorem dX0_addPledge_35 : decode cX0_addPledge 35 = .ok (.iaload, 1) := by decide +kernel
theorem dX0_addPledge_36 : decode cX0_addPledge 36 = .ok (.iload_n 3, 1) := by decide +kernel
theorem dX0_addPledge_37 : decode cX0_addPledge 37 = .ok (.iadd, 1) := by decide +kernel
theorem dX0_addPledge_38 : decode cX0_addPledge 38 = .ok (.iastore, 1) := by decide +kernel
theorem dX0_addPledge_39 : decode cX0_addPledge 39 = .ok (.aload_n 0, 1) := by decide +kernel
theorem dX0_addPledge_40 : decode cX0_addPledge 40 = .ok (.getfield 18, 3) := by decide +kernel
theorem dX0_addPledge_43 : decode cX0_addPledge 43 = .ok (.iload 4, 2) := by decide +kernel
theorem dX0_addPledge_45 : decode cX0_addPledge 45 = .ok (.iaload, 1) := by decide +kernel
theorem dX0_addPledge_46 : decode cX0_addPledge 46 = .ok (.ireturn, 1) := by decide +kernel
set_option maxRecDepth 20000 in
theorem ggX0_dropPledge_X0_place : GoodIn wsX0_dropPledge wsX0_place := goodIn_r _ [7] (by decide +kernel) (by decide +kernel)
set_option maxRecDepth 20000 in
theorem gX0_dropPledge_X0_place : GoodIn wsX0_dropPledge (va_wsS RX0 101 yX0_place wsX0_place) := goodIn_app (goodIn_of _ (by decide +kernel)) ggX0_dropPledge_X0_place
set_option maxRecDepth 20000 in
theorem ggX0_dropPledge_X0_cover : GoodIn wsX0_dropPledge wsX0_cover := goodIn_r _ [11, 12, 13, 14, 6, 15, 16, 17, 18, 19, 20, 1, 21, 22, 23, 24, 25, 26, 27, 28, 29, 30, 31, 32, 33, 34, 35, 36, 37, 38, 39, 40] (by decide +kernel) (by decide +kernel)
set_option maxRecDepth 20000 in
theorem gX0_dropPledge_X0_cover : GoodIn wsX0_dropPledge (wsV RX0 94 RX0 yX0_cover wsX0_cover) := goodIn_app (goodIn_of _ (by decide +kernel)) ggX0_dropPledge_X0_cover
theorem dX0_dropPledge_0 : decode cX0_dropPledge 0 = .ok (.iload_n 1, 1) := by decide +kernel
theorem dX0_dropPledge_1 : decode cX0_dropPledge 1 = .ok (.iload_n 2, 1) := by decide +kernel
theorem dX0_dropPledge_2 : decode cX0_dropPledge 2 = .ok (.invokestatic 101, 3) := by decide +kernel
theorem dX0_dropPledge_5 : decode cX0_dropPledge 5 = .ok (.istore 4, 2) := by decide +kernel
theorem dX0_dropPledge_7 : decode cX0_dropPledge 7 = .ok (.iload_n 3, 1) := by decide +kernel
theorem dX0_dropPledge_8 : decode cX0_dropPledge 8 = .ok (.aload_n 0, 1) := by decide +kernel
theorem dX0_dropPledge_9 : decode cX0_dropPledge 9 = .ok (.getfield 18, 3) := by decide +kernel
theorem dX0_dropPledge_12 : decode cX0_dropPledge 12 = .ok (.iload 4, 2) := by decide +kernel
theorem dX0_dropPledge_14 : decode cX0_dropPledge 14 = .ok (.iaload, 1) := by decide +kernel
theorem dX0_dropPledge_15 : decode cX0_dropPledge 15 = .ok (.if_icmp .le 15, 3) := by decide +kernel
theorem dX0_dropPledge_18 : decode cX0_dropPledge 18 = .ok (.aload_n 0, 1) := by decide +kernel
theorem dX0_dropPledge_19 : decode cX0_dropPledge 19 = .ok (.dup, 1) := by decide +kernel
theorem dX0_dropPledge_20 : decode cX0_dropPledge 20 = .ok (.getfield 59, 3) := by decide +kernel
theorem dX0_dropPledge_23 : decode cX0_dropPledge 23 = .ok (.iconst 1, 1) := by decide +kernel
theorem dX0_dropPledge_24 : decode cX0_dropPledge 24 = .ok (.iadd, 1) := by decide +kernel
theorem dX0_dropPledge_25 : decode cX0_dropPledge 25 = .ok (.putfield 59, 3) := by decide +kernel
theorem dX0_dropPledge_28 : decode cX0_dropPledge 28 = .ok (.iconst 1, 1) := by decide +kernel
theorem dX0_dropPledge_29 : decode cX0_dropPledge 29 = .ok (.ireturn, 1) := by decide +kernel
theorem dX0_dropPledge_30 : decode cX0_dropPledge 30 = .ok (.aload_n 0, 1) := by decide +kernel
theorem dX0_dropPledge_31 : decode cX0_dropPledge 31 = .ok (.iload_n 2, 1) := by decide +kernel
theorem dX0_dropPledge_32 : decode cX0_dropPledge 32 = .ok (.invokevirtual 94, 3) := by decide +kernel
theorem dX0_dropPledge_35 : decode cX0_dropPledge 35 = .ok (.iload_n 3, 1) := by decide +kernel
theorem dX0_dropPledge_36 : decode cX0_dropPledge 36 = .ok (.isub, 1) := by decide +kernel
theorem dX0_dropPledge_37 : decode cX0_dropPledge 37 = .ok (.aload_n 0, 1) := by decide +kernel
theorem dX0_dropPledge_38 : decode cX0_dropPledge 38 = .ok (.getfield 21, 3) := by decide +kernel
theorem dX0_dropPledge_41 : decode cX0_dropPledge 41 = .ok (.iload_n 2, 1) := by decide +kernel
theorem dX0_dropPledge_42 : decode cX0_dropPledge 42 = .ok (.iaload, 1) := by decide +kernel
theorem dX0_dropPledge_43 : decode cX0_dropPledge 43 = .ok (.if_icmp .ge 15, 3) := by decide +kernel
theorem dX0_dropPledge_46 : decode cX0_dropPledge 46 = .ok (.aload_n 0, 1) := by decide +kernel
theorem dX0_dropPledge_47 : decode cX0_dropPledge 47 = .ok (.dup, 1) := by decide +kernel
theorem dX0_dropPledge_48 : decode cX0_dropPledge 48 = .ok (.getfield 59, 3) := by decide +kernel
theorem dX0_dropPledge_51 : decode cX0_dropPledge 51 = .ok (.iconst 1, 1) := by decide +kernel
theorem dX0_dropPledge_52 : decode cX0_dropPledge 52 = .ok (.iadd, 1) := by decide +kernel
theorem dX0_dropPledge_53 : decode cX0_dropPledge 53 = .ok (.putfield 59, 3) := by decide +kernel
theorem dX0_dropPledge_56 : decode cX0_dropPledge 56 = .ok (.iconst 2, 1) := by decide +kernel
theorem dX0_dropPledge_57 : decode cX0_dropPledge 57 = .ok (.ireturn, 1) := by decide +kernel
theorem dX0_dropPledge_58 : decode cX0_dropPledge 58 = .ok (.aload_n 0, 1) := by decide +kernel
theorem dX0_dropPledge_59 : decode cX0_dropPledge 59 = .ok (.getfield 18, 3) := by decide +kernel
theorem dX0_dropPledge_62 : decode cX0_dropPledge 62 = .ok (.iload 4, 2) := by decide +kernel
theorem dX0_dropPledge_64 : decode cX0_dropPledge 64 = .ok (.dup2, 1) := by decide +kernel
theorem dX0_dropPledge_65 : decode cX0_dropPledge 65 = .ok (.iaload, 1) := by decide +kernel
theorem dX0_dropPledge_66 : decode cX0_dropPledge 66 = .ok (.iload_n 3, 1) := by decide +kernel
theorem dX0_dropPledge_67 : decode cX0_dropPledge 67 = .ok (.isub, 1) := by decide +kernel
theorem dX0_dropPledge_68 : decode cX0_dropPledge 68 = .ok (.iastore, 1) := by decide +kernel
theorem dX0_dropPledge_69 : decode cX0_dropPledge 69 = .ok (.iconst 0, 1) := by decide +kernel
theorem dX0_dropPledge_70 : decode cX0_dropPledge 70 = .ok (.ireturn, 1) := by decide +kernel
theorem dX0_feeOf_0 : decode cX0_feeOf 0 = .ok (.iload_n 1, 1) := by decide +kernel
theorem dX0_feeOf_1 : decode cX0_feeOf 1 = .ok (.aload_n 0, 1) := by decide +kernel
theorem dX0_feeOf_2 : decode cX0_feeOf 2 = .ok (.getfield 33, 3) := by decide +kernel
theorem dX0_feeOf_5 : decode cX0_feeOf 5 = .ok (.iconst 0, 1) := by decide +kernel
theorem dX0_feeOf_6 : decode cX0_feeOf 6 = .ok (.iaload, 1) := by decide +kernel
theorem dX0_feeOf_7 : decode cX0_feeOf 7 = .ok (.imul, 1) := by decide +kernel
theorem dX0_feeOf_8 : decode cX0_feeOf 8 = .ok (.sipush 1000, 3) := by decide +kernel
theorem dX0_feeOf_11 : decode cX0_feeOf 11 = .ok (.idiv, 1) := by decide +kernel
theorem dX0_feeOf_12 : decode cX0_feeOf 12 = .ok (.ireturn, 1) := by decide +kernel
theorem dX0_threefold_0 : decode cX0_threefold 0 = .ok (.iconst 3, 1) := by decide +kernel
theorem dX0_threefold_1 : decode cX0_threefold 1 = .ok (.aload_n 0, 1) := by decide +kernel
theorem dX0_threefold_2 : decode cX0_threefold 2 = .ok (.getfield 9, 3) := by decide +kernel
theorem dX0_threefold_5 : decode cX0_threefold 5 = .ok (.iload_n 1, 1) := by decide +kernel
theorem dX0_threefold_6 : decode cX0_threefold 6 = .ok (.iaload, 1) := by decide +kernel
theorem dX0_threefold_7 : decode cX0_threefold 7 = .ok (.imul, 1) := by decide +kernel
theorem dX0_threefold_8 : decode cX0_threefold 8 = .ok (.ireturn, 1) := by decide +kernel
set_option maxRecDepth 20000 in
theorem ggX0_whyNoLoan_X0_hasLoan : GoodIn wsX0_whyNoLoan wsX0_hasLoan := goodIn_r _ [5, 6, 39, 40, 41, 42, 43, 44, 45, 46, 47, 48, 49, 50, 51, 52, 53, 54] (by decide +kernel) (by decide +kernel)
set_option maxRecDepth 20000 in
theorem gX0_whyNoLoan_X0_hasLoan : GoodIn wsX0_whyNoLoan (wsV RX0 77 RX0 yX0_hasLoan wsX0_hasLoan) := goodIn_app (goodIn_of _ (by decide +kernel)) ggX0_whyNoLoan_X0_hasLoan
set_option maxRecDepth 20000 in
theorem ggX0_whyNoLoan_X0_threefold : GoodIn wsX0_whyNoLoan wsX0_threefold := goodIn_r _ [10, 11, 39, 40, 41, 42, 43, 44, 45, 46, 47, 48, 49, 50, 51, 52, 53, 54] (by decide +kernel) (by decide +kernel)
set_option maxRecDepth 20000 in
theorem gX0_whyNoLoan_X0_threefold : GoodIn wsX0_whyNoLoan (wsV RX0 104 RX0 yX0_threefold wsX0_threefold) := goodIn_app (goodIn_of _ (by decide +kernel)) ggX0_whyNoLoan_X0_threefold
set_option maxRecDepth 20000 in
theorem ggX0_whyNoLoan_X0_cover : GoodIn wsX0_whyNoLoan wsX0_cover := goodIn_r _ [15, 16, 17, 18, 4, 19, 11, 20, 21, 22, 23, 24, 25, 26, 27, 28, 39, 40, 41, 42, 43, 44, 45, 46, 47, 48, 49, 50, 51, 52, 53, 54] (by decide +kernel) (by decide +kernel)
set_option maxRecDepth 20000 in
theorem gX0_whyNoLoan_X0_cover : GoodIn wsX0_whyNoLoan (wsV RX0 94 RX0 yX0_cover wsX0_cover) := goodIn_app (goodIn_of _ (by decide +kernel)) ggX0_whyNoLoan_X0_cover
set_option maxRecDepth 20000 in
theorem ggX0_whyNoLoan_X0_whyAbove : GoodIn wsX0_whyNoLoan wsX0_whyAbove := goodIn_r _ [32, 33, 34, 35, 36, 4, 37, 38, 39, 40, 41, 42, 43, 44, 45, 46, 47, 48, 49, 50, 51, 52, 53, 54] (by decide +kernel) (by decide +kernel)
set_option maxRecDepth 20000 in
theorem gX0_whyNoLoan_X0_whyAbove : GoodIn wsX0_whyNoLoan (wsV RX0 107 RX0 yX0_whyAbove wsX0_whyAbove) := goodIn_app (goodIn_of _ (by decide +kernel)) ggX0_whyNoLoan_X0_whyAbove
theorem dX0_whyNoLoan_0 : decode cX0_whyNoLoan 0 = .ok (.aload_n 0, 1) := by decide +kernel
theorem dX0_whyNoLoan_1 : decode cX0_whyNoLoan 1 = .ok (.iload_n 1, 1) := by decide +kernel
theorem dX0_whyNoLoan_2 : decode cX0_whyNoLoan 2 = .ok (.invokevirtual 77, 3) := by decide +kernel
theorem dX0_whyNoLoan_5 : decode cX0_whyNoLoan 5 = .ok (.ifCond .eq 5, 3) := by decide +kernel
theorem dX0_whyNoLoan_8 : decode cX0_whyNoLoan 8 = .ok (.iconst 1, 1) := by decide +kernel
theorem dX0_whyNoLoan_9 : decode cX0_whyNoLoan 9 = .ok (.ireturn, 1) := by decide +kernel
theorem dX0_whyNoLoan_10 : decode cX0_whyNoLoan 10 = .ok (.aload_n 0, 1) := by decide +kernel
theorem dX0_whyNoLoan_11 : decode cX0_whyNoLoan 11 = .ok (.aload_n 0, 1) := by decide +kernel
theorem dX0_whyNoLoan_12 : decode cX0_whyNoLoan 12 = .ok (.iload_n 1, 1) := by decide +kernel
theorem dX0_whyNoLoan_13 : decode cX0_whyNoLoan 13 = .ok (.invokevirtual 104, 3) := by decide +kernel
theorem dX0_whyNoLoan_16 : decode cX0_whyNoLoan 16 = .ok (.aload_n 0, 1) := by decide +kernel
theorem dX0_whyNoLoan_17 : decode cX0_whyNoLoan 17 = .ok (.iload_n 1, 1) := by decide +kernel
theorem dX0_whyNoLoan_18 : decode cX0_whyNoLoan 18 = .ok (.invokevirtual 94, 3) := by decide +kernel
theorem dX0_whyNoLoan_21 : decode cX0_whyNoLoan 21 = .ok (.iload_n 2, 1) := by decide +kernel
theorem dX0_whyNoLoan_22 : decode cX0_whyNoLoan 22 = .ok (.invokevirtual 107, 3) := by decide +kernel
theorem dX0_whyNoLoan_25 : decode cX0_whyNoLoan 25 = .ok (.ireturn, 1) := by decide +kernel
set_option maxRecDepth 20000 in
theorem ggX0_whyAbove_X0_feeOf : GoodIn wsX0_whyAbove wsX0_feeOf := goodIn_r _ [6, 7, 8, 9, 10, 11, 12, 13, 14, 15, 16, 17, 18, 19, 20, 21, 22, 23] (by decide +kernel) (by decide +kernel)
set_option maxRecDepth 20000 in
theorem gX0_whyAbove_X0_feeOf : GoodIn wsX0_whyAbove (wsV RX0 111 RX0 yX0_feeOf wsX0_feeOf) := goodIn_app (goodIn_of _ (by decide +kernel)) ggX0_whyAbove_X0_feeOf
theorem dX0_whyAbove_0 : decode cX0_whyAbove 0 = .ok (.iload_n 3, 1) := by decide +kernel
theorem dX0_whyAbove_1 : decode cX0_whyAbove 1 = .ok (.iload_n 1, 1) := by decide +kernel
theorem dX0_whyAbove_2 : decode cX0_whyAbove 2 = .ok (.if_icmp .le 5, 3) := by decide +kernel
theorem dX0_whyAbove_5 : decode cX0_whyAbove 5 = .ok (.iconst 2, 1) := by decide +kernel
theorem dX0_whyAbove_6 : decode cX0_whyAbove 6 = .ok (.ireturn, 1) := by decide +kernel
theorem dX0_whyAbove_7 : decode cX0_whyAbove 7 = .ok (.iload_n 3, 1) := by decide +kernel
theorem dX0_whyAbove_8 : decode cX0_whyAbove 8 = .ok (.iload_n 2, 1) := by decide +kernel
theorem dX0_whyAbove_9 : decode cX0_whyAbove 9 = .ok (.if_icmp .le 5, 3) := by decide +kernel
theorem dX0_whyAbove_12 : decode cX0_whyAbove 12 = .ok (.iconst 3, 1) := by decide +kernel
theorem dX0_whyAbove_13 : decode cX0_whyAbove 13 = .ok (.ireturn, 1) := by decide +kernel
theorem dX0_whyAbove_14 : decode cX0_whyAbove 14 = .ok (.aload_n 0, 1) := by decide +kernel
theorem dX0_whyAbove_15 : decode cX0_whyAbove 15 = .ok (.getfield 40, 3) := by decide +kernel
theorem dX0_whyAbove_18 : decode cX0_whyAbove 18 = .ok (.iload_n 3, 1) := by decide +kernel
theorem dX0_whyAbove_19 : decode cX0_whyAbove 19 = .ok (.aload_n 0, 1) := by decide +kernel
theorem dX0_whyAbove_20 : decode cX0_whyAbove 20 = .ok (.iload_n 3, 1) := by decide +kernel
theorem dX0_whyAbove_21 : decode cX0_whyAbove 21 = .ok (.invokevirtual 111, 3) := by decide +kernel
theorem dX0_whyAbove_24 : decode cX0_whyAbove 24 = .ok (.isub, 1) := by decide +kernel
theorem dX0_whyAbove_25 : decode cX0_whyAbove 25 = .ok (.if_icmp .ge 7, 3) := by decide +kernel
theorem dX0_whyAbove_28 : decode cX0_whyAbove 28 = .ok (.iconst 4, 1) := by decide +kernel
theorem dX0_whyAbove_29 : decode cX0_whyAbove 29 = .ok (.goto 4, 3) := by decide +kernel
theorem dX0_whyAbove_32 : decode cX0_whyAbove 32 = .ok (.iconst 0, 1) := by decide +kernel
theorem dX0_whyAbove_33 : decode cX0_whyAbove 33 = .ok (.ireturn, 1) := by decide +kernel
set_option maxRecDepth 20000 in
theorem ggX0_lend_X0_whyNoLoan : GoodIn wsX0_lend wsX0_whyNoLoan := goodIn_r _ [13, 14, 15, 16, 12, 17, 4, 18, 19, 20, 21, 22, 23, 24, 25, 26, 27, 28, 29, 30, 31, 32, 33, 34, 35, 36, 37, 38, 39, 40, 41, 42, 43, 2, 44, 45, 46, 47, 48, 49, 50, 51, 52, 53, 54, 55, 56, 57, 58, 59, 60, 61, 62, 63, 64] (by decide +kernel) (by decide +kernel)
set_option maxRecDepth 20000 in
theorem gX0_lend_X0_whyNoLoan : GoodIn wsX0_lend (wsV RX0 114 RX0 yX0_whyNoLoan wsX0_whyNoLoan) := goodIn_app (goodIn_of _ (by decide +kernel)) ggX0_lend_X0_whyNoLoan
set_option maxRecDepth 20000 in
theorem ggX0_lend_X0_feeOf : GoodIn wsX0_lend wsX0_feeOf := goodIn_r _ [47, 48, 49, 50, 51, 52, 53, 54, 55, 56, 57, 58, 59, 60, 61, 62, 63, 64] (by decide +kernel) (by decide +kernel)
set_option maxRecDepth 20000 in
theorem gX0_lend_X0_feeOf : GoodIn wsX0_lend (wsV RX0 111 RX0 yX0_feeOf wsX0_feeOf) := goodIn_app (goodIn_of _ (by decide +kernel)) ggX0_lend_X0_feeOf
theorem dX0_lend_0 : decode cX0_lend 0 = .ok (.aload_n 0, 1) := by decide +kernel
theorem dX0_lend_1 : decode cX0_lend 1 = .ok (.iload_n 1, 1) := by decide +kernel
theorem dX0_lend_2 : decode cX0_lend 2 = .ok (.iload_n 2, 1) := by decide +kernel
theorem dX0_lend_3 : decode cX0_lend 3 = .ok (.invokevirtual 114, 3) := by decide +kernel
theorem dX0_lend_6 : decode cX0_lend 6 = .ok (.istore 4, 2) := by decide +kernel
theorem dX0_lend_8 : decode cX0_lend 8 = .ok (.iload 4, 2) := by decide +kernel
theorem dX0_lend_10 : decode cX0_lend 10 = .ok (.ifCond .eq 16, 3) := by decide +kernel
theorem dX0_lend_13 : decode cX0_lend 13 = .ok (.aload_n 0, 1) := by decide +kernel
theorem dX0_lend_14 : decode cX0_lend 14 = .ok (.dup, 1) := by decide +kernel
theorem dX0_lend_15 : decode cX0_lend 15 = .ok (.getfield 59, 3) := by decide +kernel
theorem dX0_lend_18 : decode cX0_lend 18 = .ok (.iconst 1, 1) := by decide +kernel
theorem dX0_lend_19 : decode cX0_lend 19 = .ok (.iadd, 1) := by decide +kernel
theorem dX0_lend_20 : decode cX0_lend 20 = .ok (.putfield 59, 3) := by decide +kernel
theorem dX0_lend_23 : decode cX0_lend 23 = .ok (.iload 4, 2) := by decide +kernel
theorem dX0_lend_25 : decode cX0_lend 25 = .ok (.ireturn, 1) := by decide +kernel
theorem dX0_lend_26 : decode cX0_lend 26 = .ok (.aload_n 0, 1) := by decide +kernel
theorem dX0_lend_27 : decode cX0_lend 27 = .ok (.iload_n 2, 1) := by decide +kernel
theorem dX0_lend_28 : decode cX0_lend 28 = .ok (.invokevirtual 111, 3) := by decide +kernel
theorem dX0_lend_31 : decode cX0_lend 31 = .ok (.istore 5, 2) := by decide +kernel
theorem dX0_lend_33 : decode cX0_lend 33 = .ok (.aload_n 0, 1) := by decide +kernel
theorem dX0_lend_34 : decode cX0_lend 34 = .ok (.dup, 1) := by decide +kernel
theorem dX0_lend_35 : decode cX0_lend 35 = .ok (.getfield 40, 3) := by decide +kernel
theorem dX0_lend_38 : decode cX0_lend 38 = .ok (.iload_n 2, 1) := by decide +kernel
theorem dX0_lend_39 : decode cX0_lend 39 = .ok (.iload 5, 2) := by decide +kernel
theorem dX0_lend_41 : decode cX0_lend 41 = .ok (.isub, 1) := by decide +kernel
theorem dX0_lend_42 : decode cX0_lend 42 = .ok (.isub, 1) := by decide +kernel
theorem dX0_lend_43 : decode cX0_lend 43 = .ok (.putfield 40, 3) := by decide +kernel
theorem dX0_lend_46 : decode cX0_lend 46 = .ok (.aload_n 0, 1) := by decide +kernel
theorem dX0_lend_47 : decode cX0_lend 47 = .ok (.dup, 1) := by decide +kernel
theorem dX0_lend_48 : decode cX0_lend 48 = .ok (.getfield 44, 3) := by decide +kernel
theorem dX0_lend_51 : decode cX0_lend 51 = .ok (.iload 5, 2) := by decide +kernel
theorem dX0_lend_53 : decode cX0_lend 53 = .ok (.iadd, 1) := by decide +kernel
theorem dX0_lend_54 : decode cX0_lend 54 = .ok (.putfield 44, 3) := by decide +kernel
theorem dX0_lend_57 : decode cX0_lend 57 = .ok (.aload_n 0, 1) := by decide +kernel
theorem dX0_lend_58 : decode cX0_lend 58 = .ok (.getfield 21, 3) := by decide +kernel
theorem dX0_lend_61 : decode cX0_lend 61 = .ok (.iload_n 1, 1) := by decide +kernel
theorem dX0_lend_62 : decode cX0_lend 62 = .ok (.iload_n 2, 1) := by decide +kernel
theorem dX0_lend_63 : decode cX0_lend 63 = .ok (.iastore, 1) := by decide +kernel
theorem dX0_lend_64 : decode cX0_lend 64 = .ok (.aload_n 0, 1) := by decide +kernel
theorem dX0_lend_65 : decode cX0_lend 65 = .ok (.getfield 24, 3) := by decide +kernel
theorem dX0_lend_68 : decode cX0_lend 68 = .ok (.iload_n 1, 1) := by decide +kernel
theorem dX0_lend_69 : decode cX0_lend 69 = .ok (.iload_n 2, 1) := by decide +kernel
theorem dX0_lend_70 : decode cX0_lend 70 = .ok (.iload_n 3, 1) := by decide +kernel
theorem dX0_lend_71 : decode cX0_lend 71 = .ok (.iadd, 1) := by decide +kernel
theorem dX0_lend_72 : decode cX0_lend 72 = .ok (.iconst 1, 1) := by decide +kernel
theorem dX0_lend_73 : decode cX0_lend 73 = .ok (.isub, 1) := by decide +kernel
theorem dX0_lend_74 : decode cX0_lend 74 = .ok (.iload_n 3, 1) := by decide +kernel
theorem dX0_lend_75 : decode cX0_lend 75 = .ok (.idiv, 1) := by decide +kernel
theorem dX0_lend_76 : decode cX0_lend 76 = .ok (.iastore, 1) := by decide +kernel
theorem dX0_lend_77 : decode cX0_lend 77 = .ok (.aload_n 0, 1) := by decide +kernel
theorem dX0_lend_78 : decode cX0_lend 78 = .ok (.getfield 27, 3) := by decide +kernel
theorem dX0_lend_81 : decode cX0_lend 81 = .ok (.iload_n 1, 1) := by decide +kernel
theorem dX0_lend_82 : decode cX0_lend 82 = .ok (.iconst 0, 1) := by decide +kernel
theorem dX0_lend_83 : decode cX0_lend 83 = .ok (.iastore, 1) := by decide +kernel
theorem dX0_lend_84 : decode cX0_lend 84 = .ok (.aload_n 0, 1) := by decide +kernel
theorem dX0_lend_85 : decode cX0_lend 85 = .ok (.getfield 30, 3) := by decide +kernel
theorem dX0_lend_88 : decode cX0_lend 88 = .ok (.iload_n 1, 1) := by decide +kernel
theorem dX0_lend_89 : decode cX0_lend 89 = .ok (.iconst 0, 1) := by decide +kernel
theorem dX0_lend_90 : decode cX0_lend 90 = .ok (.iastore, 1) := by decide +kernel
theorem dX0_lend_91 : decode cX0_lend 91 = .ok (.aload_n 0, 1) := by decide +kernel
theorem dX0_lend_92 : decode cX0_lend 92 = .ok (.dup, 1) := by decide +kernel
theorem dX0_lend_93 : decode cX0_lend 93 = .ok (.getfield 47, 3) := by decide +kernel
theorem dX0_lend_96 : decode cX0_lend 96 = .ok (.iconst 1, 1) := by decide +kernel
theorem dX0_lend_97 : decode cX0_lend 97 = .ok (.iadd, 1) := by decide +kernel
theorem dX0_lend_98 : decode cX0_lend 98 = .ok (.putfield 47, 3) := by decide +kernel
theorem dX0_lend_101 : decode cX0_lend 101 = .ok (.iconst 0, 1) := by decide +kernel
theorem dX0_lend_102 : decode cX0_lend 102 = .ok (.ireturn, 1) := by decide +kernel
theorem dX0_takeBack_0 : decode cX0_takeBack 0 = .ok (.iload_n 2, 1) := by decide +kernel
theorem dX0_takeBack_1 : decode cX0_takeBack 1 = .ok (.aload_n 0, 1) := by decide +kernel
theorem dX0_takeBack_2 : decode cX0_takeBack 2 = .ok (.getfield 21, 3) := by decide +kernel
theorem dX0_takeBack_5 : decode cX0_takeBack 5 = .ok (.iload_n 1, 1) := by decide +kernel
theorem dX0_takeBack_6 : decode cX0_takeBack 6 = .ok (.iaload, 1) := by decide +kernel
theorem dX0_takeBack_7 : decode cX0_takeBack 7 = .ok (.if_icmp .le 15, 3) := by decide +kernel
theorem dX0_takeBack_10 : decode cX0_takeBack 10 = .ok (.aload_n 0, 1) := by decide +kernel
theorem dX0_takeBack_11 : decode cX0_takeBack 11 = .ok (.dup, 1) := by decide +kernel
theorem dX0_takeBack_12 : decode cX0_takeBack 12 = .ok (.getfield 59, 3) := by decide +kernel
theorem dX0_takeBack_15 : decode cX0_takeBack 15 = .ok (.iconst 1, 1) := by decide +kernel
theorem dX0_takeBack_16 : decode cX0_takeBack 16 = .ok (.iadd, 1) := by decide +kernel
theorem dX0_takeBack_17 : decode cX0_takeBack 17 = .ok (.putfield 59, 3) := by decide +kernel
theorem dX0_takeBack_20 : decode cX0_takeBack 20 = .ok (.iconst (-1), 1) := by decide +kernel
theorem dX0_takeBack_21 : decode cX0_takeBack 21 = .ok (.ireturn, 1) := by decide +kernel
theorem dX0_takeBack_22 : decode cX0_takeBack 22 = .ok (.aload_n 0, 1) := by decide +kernel
theorem dX0_takeBack_23 : decode cX0_takeBack 23 = .ok (.dup, 1) := by decide +kernel
theorem dX0_takeBack_24 : decode cX0_takeBack 24 = .ok (.getfield 40, 3) := by decide +kernel
theorem dX0_takeBack_27 : decode cX0_takeBack 27 = .ok (.iload_n 2, 1) := by decide +kernel
theorem dX0_takeBack_28 : decode cX0_takeBack 28 = .ok (.iadd, 1) := by decide +kernel
theorem dX0_takeBack_29 : decode cX0_takeBack 29 = .ok (.putfield 40, 3) := by decide +kernel
theorem dX0_takeBack_32 : decode cX0_takeBack 32 = .ok (.aload_n 0, 1) := by decide +kernel
theorem dX0_takeBack_33 : decode cX0_takeBack 33 = .ok (.getfield 21, 3) := by decide +kernel
theorem dX0_takeBack_36 : decode cX0_takeBack 36 = .ok (.iload_n 1, 1) := by decide +kernel
theorem dX0_takeBack_37 : decode cX0_takeBack 37 = .ok (.dup2, 1) := by decide +kernel
theorem dX0_takeBack_38 : decode cX0_takeBack 38 = .ok (.iaload, 1) := by decide +kernel
theorem dX0_takeBack_39 : decode cX0_takeBack 39 = .ok (.iload_n 2, 1) := by decide +kernel
theorem dX0_takeBack_40 : decode cX0_takeBack 40 = .ok (.isub, 1) := by decide +kernel
theorem dX0_takeBack_41 : decode cX0_takeBack 41 = .ok (.iastore, 1) := by decide +kernel
theorem dX0_takeBack_42 : decode cX0_takeBack 42 = .ok (.aload_n 0, 1) := by decide +kernel
theorem dX0_takeBack_43 : decode cX0_takeBack 43 = .ok (.getfield 27, 3) := by decide +kernel
theorem dX0_takeBack_46 : decode cX0_takeBack 46 = .ok (.iload_n 1, 1) := by decide +kernel
theorem dX0_takeBack_47 : decode cX0_takeBack 47 = .ok (.dup2, 1) := by decide +kernel
theorem dX0_takeBack_48 : decode cX0_takeBack 48 = .ok (.iaload, 1) := by decide +kernel
theorem dX0_takeBack_49 : decode cX0_takeBack 49 = .ok (.iload_n 2, 1) := by decide +kernel
theorem dX0_takeBack_50 : decode cX0_takeBack 50 = .ok (.iadd, 1) := by decide +kernel
theorem dX0_takeBack_51 : decode cX0_takeBack 51 = .ok (.iastore, 1) := by decide +kernel
theorem dX0_takeBack_52 : decode cX0_takeBack 52 = .ok (.aload_n 0, 1) := by decide +kernel
theorem dX0_takeBack_53 : decode cX0_takeBack 53 = .ok (.getfield 21, 3) := by decide +kernel
theorem dX0_takeBack_56 : decode cX0_takeBack 56 = .ok (.iload_n 1, 1) := by decide +kernel
theorem dX0_takeBack_57 : decode cX0_takeBack 57 = .ok (.iaload, 1) := by decide +kernel
theorem dX0_takeBack_58 : decode cX0_takeBack 58 = .ok (.ireturn, 1) := by decide +kernel
theorem dX0_weeksByWeeks_0 : decode cX0_weeksByWeeks 0 = .ok (.aload_n 0, 1) := by decide +kernel
theorem dX0_weeksByWeeks_1 : decode cX0_weeksByWeeks 1 = .ok (.getfield 21, 3) := by decide +kernel
theorem dX0_weeksByWeeks_4 : decode cX0_weeksByWeeks 4 = .ok (.iload_n 1, 1) := by decide +kernel
theorem dX0_weeksByWeeks_5 : decode cX0_weeksByWeeks 5 = .ok (.iaload, 1) := by decide +kernel
theorem dX0_weeksByWeeks_6 : decode cX0_weeksByWeeks 6 = .ok (.istore_n 2, 1) := by decide +kernel
theorem dX0_weeksByWeeks_7 : decode cX0_weeksByWeeks 7 = .ok (.iconst 0, 1) := by decide +kernel
theorem dX0_weeksByWeeks_8 : decode cX0_weeksByWeeks 8 = .ok (.istore_n 3, 1) := by decide +kernel
theorem dX0_weeksByWeeks_9 : decode cX0_weeksByWeeks 9 = .ok (.iload_n 2, 1) := by decide +kernel
theorem dX0_weeksByWeeks_10 : decode cX0_weeksByWeeks 10 = .ok (.ifCond .le 29, 3) := by decide +kernel
theorem dX0_weeksByWeeks_13 : decode cX0_weeksByWeeks 13 = .ok (.iload_n 3, 1) := by decide +kernel
theorem dX0_weeksByWeeks_14 : decode cX0_weeksByWeeks 14 = .ok (.sipush 9999, 3) := by decide +kernel
theorem dX0_weeksByWeeks_17 : decode cX0_weeksByWeeks 17 = .ok (.if_icmp .ge 22, 3) := by decide +kernel
theorem dX0_weeksByWeeks_20 : decode cX0_weeksByWeeks 20 = .ok (.iload_n 2, 1) := by decide +kernel
theorem dX0_weeksByWeeks_21 : decode cX0_weeksByWeeks 21 = .ok (.iload_n 2, 1) := by decide +kernel
theorem dX0_weeksByWeeks_22 : decode cX0_weeksByWeeks 22 = .ok (.aload_n 0, 1) := by decide +kernel
theorem dX0_weeksByWeeks_23 : decode cX0_weeksByWeeks 23 = .ok (.getfield 24, 3) := by decide +kernel
theorem dX0_weeksByWeeks_26 : decode cX0_weeksByWeeks 26 = .ok (.iload_n 1, 1) := by decide +kernel
theorem dX0_weeksByWeeks_27 : decode cX0_weeksByWeeks 27 = .ok (.iaload, 1) := by decide +kernel
theorem dX0_weeksByWeeks_28 : decode cX0_weeksByWeeks 28 = .ok (.invokestatic 65, 3) := by decide +kernel
theorem dX0_weeksByWeeks_31 : decode cX0_weeksByWeeks 31 = .ok (.isub, 1) := by decide +kernel
theorem dX0_weeksByWeeks_32 : decode cX0_weeksByWeeks 32 = .ok (.istore_n 2, 1) := by decide +kernel
theorem dX0_weeksByWeeks_33 : decode cX0_weeksByWeeks 33 = .ok (.iinc 3 1, 3) := by decide +kernel
theorem dX0_weeksByWeeks_36 : decode cX0_weeksByWeeks 36 = .ok (.goto (-27), 3) := by decide +kernel
theorem dX0_weeksByWeeks_39 : decode cX0_weeksByWeeks 39 = .ok (.iload_n 3, 1) := by decide +kernel
theorem dX0_weeksByWeeks_40 : decode cX0_weeksByWeeks 40 = .ok (.ireturn, 1) := by decide +kernel
set_option maxRecDepth 20000 in
theorem ggX0_weeksAtOnce_X0_hasLoan : GoodIn wsX0_weeksAtOnce wsX0_hasLoan := goodIn_r _ [7, 2, 8, 9, 10, 11, 12, 13, 14, 15, 16, 17, 18, 19, 20, 21, 22, 23] (by decide +kernel) (by decide +kernel)
set_option maxRecDepth 20000 in
theorem gX0_weeksAtOnce_X0_hasLoan : GoodIn wsX0_weeksAtOnce (wsV RX0 77 RX0 yX0_hasLoan wsX0_hasLoan) := goodIn_app (goodIn_of _ (by decide +kernel)) ggX0_weeksAtOnce_X0_hasLoan
theorem dX0_weeksAtOnce_0 : decode cX0_weeksAtOnce 0 = .ok (.aload_n 0, 1) := by decide +kernel
theorem dX0_weeksAtOnce_1 : decode cX0_weeksAtOnce 1 = .ok (.getfield 24, 3) := by decide +kernel
theorem dX0_weeksAtOnce_4 : decode cX0_weeksAtOnce 4 = .ok (.iload_n 1, 1) := by decide +kernel
theorem dX0_weeksAtOnce_5 : decode cX0_weeksAtOnce 5 = .ok (.iaload, 1) := by decide +kernel
theorem dX0_weeksAtOnce_6 : decode cX0_weeksAtOnce 6 = .ok (.istore_n 2, 1) := by decide +kernel
theorem dX0_weeksAtOnce_7 : decode cX0_weeksAtOnce 7 = .ok (.aload_n 0, 1) := by decide +kernel
theorem dX0_weeksAtOnce_8 : decode cX0_weeksAtOnce 8 = .ok (.iload_n 1, 1) := by decide +kernel
theorem dX0_weeksAtOnce_9 : decode cX0_weeksAtOnce 9 = .ok (.invokevirtual 77, 3) := by decide +kernel
theorem dX0_weeksAtOnce_12 : decode cX0_weeksAtOnce 12 = .ok (.ifCond .eq 8, 3) := by decide +kernel
theorem dX0_weeksAtOnce_15 : decode cX0_weeksAtOnce 15 = .ok (.iload_n 2, 1) := by decide +kernel
theorem dX0_weeksAtOnce_16 : decode cX0_weeksAtOnce 16 = .ok (.iconst 1, 1) := by decide +kernel
theorem dX0_weeksAtOnce_17 : decode cX0_weeksAtOnce 17 = .ok (.if_icmp .ge 5, 3) := by decide +kernel
theorem dX0_weeksAtOnce_20 : decode cX0_weeksAtOnce 20 = .ok (.iconst 0, 1) := by decide +kernel
theorem dX0_weeksAtOnce_21 : decode cX0_weeksAtOnce 21 = .ok (.ireturn, 1) := by decide +kernel
theorem dX0_weeksAtOnce_22 : decode cX0_weeksAtOnce 22 = .ok (.aload_n 0, 1) := by decide +kernel
theorem dX0_weeksAtOnce_23 : decode cX0_weeksAtOnce 23 = .ok (.getfield 21, 3) := by decide +kernel
theorem dX0_weeksAtOnce_26 : decode cX0_weeksAtOnce 26 = .ok (.iload_n 1, 1) := by decide +kernel
theorem dX0_weeksAtOnce_27 : decode cX0_weeksAtOnce 27 = .ok (.iaload, 1) := by decide +kernel
theorem dX0_weeksAtOnce_28 : decode cX0_weeksAtOnce 28 = .ok (.iload_n 2, 1) := by decide +kernel
theorem dX0_weeksAtOnce_29 : decode cX0_weeksAtOnce 29 = .ok (.iadd, 1) := by decide +kernel
theorem dX0_weeksAtOnce_30 : decode cX0_weeksAtOnce 30 = .ok (.iconst 1, 1) := by decide +kernel
theorem dX0_weeksAtOnce_31 : decode cX0_weeksAtOnce 31 = .ok (.isub, 1) := by decide +kernel
theorem dX0_weeksAtOnce_32 : decode cX0_weeksAtOnce 32 = .ok (.iload_n 2, 1) := by decide +kernel
theorem dX0_weeksAtOnce_33 : decode cX0_weeksAtOnce 33 = .ok (.idiv, 1) := by decide +kernel
theorem dX0_weeksAtOnce_34 : decode cX0_weeksAtOnce 34 = .ok (.ireturn, 1) := by decide +kernel
set_option maxRecDepth 20000 in
theorem ggX0_mostAtStake_X0_ownLeft : GoodIn wsX0_mostAtStake wsX0_ownLeft := goodIn_r _ [6, 7, 8, 9, 10, 5, 11, 12, 17, 18, 19, 20, 21, 22, 23, 24, 25, 26, 27, 28, 29, 30, 31, 32] (by decide +kernel) (by decide +kernel)
set_option maxRecDepth 20000 in
theorem gX0_mostAtStake_X0_ownLeft : GoodIn wsX0_mostAtStake (wsV RX0 85 RX0 yX0_ownLeft wsX0_ownLeft) := goodIn_app (goodIn_of _ (by decide +kernel)) ggX0_mostAtStake_X0_ownLeft
set_option maxRecDepth 20000 in
theorem ggX0_mostAtStake_X0_hasLoan : GoodIn wsX0_mostAtStake wsX0_hasLoan := goodIn_r _ [16, 1, 17, 18, 19, 20, 21, 22, 23, 24, 25, 26, 27, 28, 29, 30, 31, 32] (by decide +kernel) (by decide +kernel)
set_option maxRecDepth 20000 in
theorem gX0_mostAtStake_X0_hasLoan : GoodIn wsX0_mostAtStake (wsV RX0 77 RX0 yX0_hasLoan wsX0_hasLoan) := goodIn_app (goodIn_of _ (by decide +kernel)) ggX0_mostAtStake_X0_hasLoan
theorem dX0_mostAtStake_0 : decode cX0_mostAtStake 0 = .ok (.iconst (-1), 1) := by decide +kernel
theorem dX0_mostAtStake_1 : decode cX0_mostAtStake 1 = .ok (.istore_n 1, 1) := by decide +kernel
theorem dX0_mostAtStake_2 : decode cX0_mostAtStake 2 = .ok (.iconst 0, 1) := by decide +kernel
theorem dX0_mostAtStake_3 : decode cX0_mostAtStake 3 = .ok (.istore_n 2, 1) := by decide +kernel
theorem dX0_mostAtStake_4 : decode cX0_mostAtStake 4 = .ok (.iconst 0, 1) := by decide +kernel
theorem dX0_mostAtStake_5 : decode cX0_mostAtStake 5 = .ok (.istore_n 3, 1) := by decide +kernel
theorem dX0_mostAtStake_6 : decode cX0_mostAtStake 6 = .ok (.iload_n 3, 1) := by decide +kernel
theorem dX0_mostAtStake_7 : decode cX0_mostAtStake 7 = .ok (.bipush 6, 2) := by decide +kernel
theorem dX0_mostAtStake_9 : decode cX0_mostAtStake 9 = .ok (.if_icmp .ge 42, 3) := by decide +kernel
theorem dX0_mostAtStake_12 : decode cX0_mostAtStake 12 = .ok (.aload_n 0, 1) := by decide +kernel
theorem dX0_mostAtStake_13 : decode cX0_mostAtStake 13 = .ok (.getfield 21, 3) := by decide +kernel
theorem dX0_mostAtStake_16 : decode cX0_mostAtStake 16 = .ok (.iload_n 3, 1) := by decide +kernel
theorem dX0_mostAtStake_17 : decode cX0_mostAtStake 17 = .ok (.iaload, 1) := by decide +kernel
theorem dX0_mostAtStake_18 : decode cX0_mostAtStake 18 = .ok (.aload_n 0, 1) := by decide +kernel
theorem dX0_mostAtStake_19 : decode cX0_mostAtStake 19 = .ok (.iload_n 3, 1) := by decide +kernel
theorem dX0_mostAtStake_20 : decode cX0_mostAtStake 20 = .ok (.invokevirtual 85, 3) := by decide +kernel
theorem dX0_mostAtStake_23 : decode cX0_mostAtStake 23 = .ok (.isub, 1) := by decide +kernel
theorem dX0_mostAtStake_24 : decode cX0_mostAtStake 24 = .ok (.istore 4, 2) := by decide +kernel
theorem dX0_mostAtStake_26 : decode cX0_mostAtStake 26 = .ok (.aload_n 0, 1) := by decide +kernel
theorem dX0_mostAtStake_27 : decode cX0_mostAtStake 27 = .ok (.iload_n 3, 1) := by decide +kernel
theorem dX0_mostAtStake_28 : decode cX0_mostAtStake 28 = .ok (.invokevirtual 77, 3) := by decide +kernel
theorem dX0_mostAtStake_31 : decode cX0_mostAtStake 31 = .ok (.ifCond .eq 14, 3) := by decide +kernel
theorem dX0_mostAtStake_34 : decode cX0_mostAtStake 34 = .ok (.iload 4, 2) := by decide +kernel
theorem dX0_mostAtStake_36 : decode cX0_mostAtStake 36 = .ok (.iload_n 2, 1) := by decide +kernel
theorem dX0_mostAtStake_37 : decode cX0_mostAtStake 37 = .ok (.if_icmp .le 8, 3) := by decide +kernel
theorem dX0_mostAtStake_40 : decode cX0_mostAtStake 40 = .ok (.iload 4, 2) := by decide +kernel
theorem dX0_mostAtStake_42 : decode cX0_mostAtStake 42 = .ok (.istore_n 2, 1) := by decide +kernel
theorem dX0_mostAtStake_43 : decode cX0_mostAtStake 43 = .ok (.iload_n 3, 1) := by decide +kernel
theorem dX0_mostAtStake_44 : decode cX0_mostAtStake 44 = .ok (.istore_n 1, 1) := by decide +kernel
theorem dX0_mostAtStake_45 : decode cX0_mostAtStake 45 = .ok (.iinc 3 1, 3) := by decide +kernel
theorem dX0_mostAtStake_48 : decode cX0_mostAtStake 48 = .ok (.goto (-42), 3) := by decide +kernel
theorem dX0_mostAtStake_51 : decode cX0_mostAtStake 51 = .ok (.iload_n 1, 1) := by decide +kernel
theorem dX0_mostAtStake_52 : decode cX0_mostAtStake 52 = .ok (.ireturn, 1) := by decide +kernel
set_option maxRecDepth 20000 in
theorem ggX0_lentPart_X0_allShares : GoodIn wsX0_lentPart wsX0_allShares := goodIn_r _ [5, 6, 12, 13, 14, 15, 16, 17, 18, 19, 20, 21, 22, 23, 24, 25, 26, 27] (by decide +kernel) (by decide +kernel)
set_option maxRecDepth 20000 in
theorem gX0_lentPart_X0_allShares : GoodIn wsX0_lentPart (wsV RX0 117 RX0 yX0_allShares wsX0_allShares) := goodIn_app (goodIn_of _ (by decide +kernel)) ggX0_lentPart_X0_allShares
set_option maxRecDepth 20000 in
theorem ggX0_lentPart_X0_allRests : GoodIn wsX0_lentPart wsX0_allRests := goodIn_r _ [10, 11, 12, 13, 14, 15, 16, 17, 18, 19, 20, 21, 22, 23, 24, 25, 26, 27] (by decide +kernel) (by decide +kernel)
set_option maxRecDepth 20000 in
theorem gX0_lentPart_X0_allRests : GoodIn wsX0_lentPart (wsV RX0 121 RX0 yX0_allRests wsX0_allRests) := goodIn_app (goodIn_of _ (by decide +kernel)) ggX0_lentPart_X0_allRests
theorem dX0_lentPart_0 : decode cX0_lentPart 0 = .ok (.aload_n 0, 1) := by decide +kernel
theorem dX0_lentPart_1 : decode cX0_lentPart 1 = .ok (.invokevirtual 117, 3) := by decide +kernel
theorem dX0_lentPart_4 : decode cX0_lentPart 4 = .ok (.istore_n 1, 1) := by decide +kernel
theorem dX0_lentPart_5 : decode cX0_lentPart 5 = .ok (.iload_n 1, 1) := by decide +kernel
theorem dX0_lentPart_6 : decode cX0_lentPart 6 = .ok (.iconst 1, 1) := by decide +kernel
theorem dX0_lentPart_7 : decode cX0_lentPart 7 = .ok (.if_icmp .ge 7, 3) := by decide +kernel
theorem dX0_lentPart_10 : decode cX0_lentPart 10 = .ok (.dconst 0, 1) := by decide +kernel
theorem dX0_lentPart_11 : decode cX0_lentPart 11 = .ok (.goto 11, 3) := by decide +kernel
theorem dX0_lentPart_14 : decode cX0_lentPart 14 = .ok (.aload_n 0, 1) := by decide +kernel
theorem dX0_lentPart_15 : decode cX0_lentPart 15 = .ok (.invokevirtual 121, 3) := by decide +kernel
theorem dX0_lentPart_18 : decode cX0_lentPart 18 = .ok (.i2d, 1) := by decide +kernel
theorem dX0_lentPart_19 : decode cX0_lentPart 19 = .ok (.iload_n 1, 1) := by decide +kernel
theorem dX0_lentPart_20 : decode cX0_lentPart 20 = .ok (.i2d, 1) := by decide +kernel
theorem dX0_lentPart_21 : decode cX0_lentPart 21 = .ok (.ddiv, 1) := by decide +kernel
theorem dX0_lentPart_22 : decode cX0_lentPart 22 = .ok (.dreturn, 1) := by decide +kernel
theorem dX0_canEndWeek_0 : decode cX0_canEndWeek 0 = .ok (.aload_n 0, 1) := by decide +kernel
theorem dX0_canEndWeek_1 : decode cX0_canEndWeek 1 = .ok (.getfield 53, 3) := by decide +kernel
theorem dX0_canEndWeek_4 : decode cX0_canEndWeek 4 = .ok (.sipush 9999, 3) := by decide +kernel
theorem dX0_canEndWeek_7 : decode cX0_canEndWeek 7 = .ok (.if_icmp .ge 7, 3) := by decide +kernel
theorem dX0_canEndWeek_10 : decode cX0_canEndWeek 10 = .ok (.iconst 1, 1) := by decide +kernel
theorem dX0_canEndWeek_11 : decode cX0_canEndWeek 11 = .ok (.goto 4, 3) := by decide +kernel
theorem dX0_canEndWeek_14 : decode cX0_canEndWeek 14 = .ok (.iconst 0, 1) := by decide +kernel
theorem dX0_canEndWeek_15 : decode cX0_canEndWeek 15 = .ok (.ireturn, 1) := by decide +kernel
set_option maxRecDepth 20000 in
theorem ggX0_endWeek_X0_hasLoan : GoodIn wsX0_endWeek wsX0_hasLoan := goodIn_r _ [7, 8, 38, 39, 40, 41, 42, 43, 44, 45, 46, 47, 48, 49, 50, 51, 52, 53] (by decide +kernel) (by decide +kernel)
set_option maxRecDepth 20000 in
theorem gX0_endWeek_X0_hasLoan : GoodIn wsX0_endWeek (wsV RX0 77 RX0 yX0_hasLoan wsX0_hasLoan) := goodIn_app (goodIn_of _ (by decide +kernel)) ggX0_endWeek_X0_hasLoan
set_option maxRecDepth 20000 in
theorem ggX0_endWeek_X0_endWeekOf : GoodIn wsX0_endWeek wsX0_endWeekOf := goodIn_r _ [12, 13, 14, 15, 16, 17, 18, 19, 6, 20, 8, 21, 22, 23, 24, 25, 26, 27, 28, 29, 30, 31, 32, 33, 34, 35, 36, 37, 38, 39, 40, 41, 42, 43, 44, 45, 46, 47, 48, 49, 50, 51, 52, 53] (by decide +kernel) (by decide +kernel)
set_option maxRecDepth 20000 in
theorem gX0_endWeek_X0_endWeekOf : GoodIn wsX0_endWeek (wsV RX0 124 RX0 yX0_endWeekOf wsX0_endWeekOf) := goodIn_app (goodIn_of _ (by decide +kernel)) ggX0_endWeek_X0_endWeekOf
theorem dX0_endWeek_0 : decode cX0_endWeek 0 = .ok (.iconst 0, 1) := by decide +kernel
theorem dX0_endWeek_1 : decode cX0_endWeek 1 = .ok (.istore_n 1, 1) := by decide +kernel
theorem dX0_endWeek_2 : decode cX0_endWeek 2 = .ok (.iconst 0, 1) := by decide +kernel
theorem dX0_endWeek_3 : decode cX0_endWeek 3 = .ok (.istore_n 2, 1) := by decide +kernel
theorem dX0_endWeek_4 : decode cX0_endWeek 4 = .ok (.iload_n 2, 1) := by decide +kernel
theorem dX0_endWeek_5 : decode cX0_endWeek 5 = .ok (.bipush 6, 2) := by decide +kernel
theorem dX0_endWeek_7 : decode cX0_endWeek 7 = .ok (.if_icmp .ge 28, 3) := by decide +kernel
theorem dX0_endWeek_10 : decode cX0_endWeek 10 = .ok (.aload_n 0, 1) := by decide +kernel
theorem dX0_endWeek_11 : decode cX0_endWeek 11 = .ok (.iload_n 2, 1) := by decide +kernel
theorem dX0_endWeek_12 : decode cX0_endWeek 12 = .ok (.invokevirtual 77, 3) := by decide +kernel
theorem dX0_endWeek_15 : decode cX0_endWeek 15 = .ok (.ifCond .eq 14, 3) := by decide +kernel
theorem dX0_endWeek_18 : decode cX0_endWeek 18 = .ok (.aload_n 0, 1) := by decide +kernel
theorem dX0_endWeek_19 : decode cX0_endWeek 19 = .ok (.iload_n 2, 1) := by decide +kernel
theorem dX0_endWeek_20 : decode cX0_endWeek 20 = .ok (.invokevirtual 124, 3) := by decide +kernel
theorem dX0_endWeek_23 : decode cX0_endWeek 23 = .ok (.ifCond .eq 6, 3) := by decide +kernel
theorem dX0_endWeek_26 : decode cX0_endWeek 26 = .ok (.iinc 1 1, 3) := by decide +kernel
theorem dX0_endWeek_29 : decode cX0_endWeek 29 = .ok (.iinc 2 1, 3) := by decide +kernel
theorem dX0_endWeek_32 : decode cX0_endWeek 32 = .ok (.goto (-28), 3) := by decide +kernel
theorem dX0_endWeek_35 : decode cX0_endWeek 35 = .ok (.aload_n 0, 1) := by decide +kernel
theorem dX0_endWeek_36 : decode cX0_endWeek 36 = .ok (.dup, 1) := by decide +kernel
theorem dX0_endWeek_37 : decode cX0_endWeek 37 = .ok (.getfield 53, 3) := by decide +kernel
theorem dX0_endWeek_40 : decode cX0_endWeek 40 = .ok (.iconst 1, 1) := by decide +kernel
theorem dX0_endWeek_41 : decode cX0_endWeek 41 = .ok (.iadd, 1) := by decide +kernel
theorem dX0_endWeek_42 : decode cX0_endWeek 42 = .ok (.putfield 53, 3) := by decide +kernel
theorem dX0_endWeek_45 : decode cX0_endWeek 45 = .ok (.aload_n 0, 1) := by decide +kernel
theorem dX0_endWeek_46 : decode cX0_endWeek 46 = .ok (.dup, 1) := by decide +kernel
theorem dX0_endWeek_47 : decode cX0_endWeek 47 = .ok (.getfield 50, 3) := by decide +kernel
theorem dX0_endWeek_50 : decode cX0_endWeek 50 = .ok (.iload_n 1, 1) := by decide +kernel
theorem dX0_endWeek_51 : decode cX0_endWeek 51 = .ok (.iadd, 1) := by decide +kernel
theorem dX0_endWeek_52 : decode cX0_endWeek 52 = .ok (.putfield 50, 3) := by decide +kernel
theorem dX0_endWeek_55 : decode cX0_endWeek 55 = .ok (.iload_n 1, 1) := by decide +kernel
theorem dX0_endWeek_56 : decode cX0_endWeek 56 = .ok (.ireturn, 1) := by decide +kernel
set_option maxRecDepth 20000 in
theorem ggX0_endWeekOf_X0_takeDue : GoodIn wsX0_endWeekOf wsX0_takeDue := goodIn_r _ [9, 10, 11, 12, 13, 14, 15, 16, 17, 18, 19, 8, 20, 21, 22, 23, 24, 25, 26, 27, 28, 29, 30, 31, 32, 33, 34, 35, 36, 37, 38, 39, 40, 41, 42, 43] (by decide +kernel) (by decide +kernel)
set_option maxRecDepth 20000 in
theorem gX0_endWeekOf_X0_takeDue : GoodIn wsX0_endWeekOf (wsV RX0 127 RX0 yX0_takeDue wsX0_takeDue) := goodIn_app (goodIn_of _ (by decide +kernel)) ggX0_endWeekOf_X0_takeDue
theorem dX0_endWeekOf_0 : decode cX0_endWeekOf 0 = .ok (.aload_n 0, 1) := by decide +kernel
theorem dX0_endWeekOf_1 : decode cX0_endWeekOf 1 = .ok (.getfield 30, 3) := by decide +kernel
theorem dX0_endWeekOf_4 : decode cX0_endWeekOf 4 = .ok (.iload_n 1, 1) := by decide +kernel
theorem dX0_endWeekOf_5 : decode cX0_endWeekOf 5 = .ok (.aload_n 0, 1) := by decide +kernel
theorem dX0_endWeekOf_6 : decode cX0_endWeekOf 6 = .ok (.getfield 27, 3) := by decide +kernel
theorem dX0_endWeekOf_9 : decode cX0_endWeekOf 9 = .ok (.iload_n 1, 1) := by decide +kernel
theorem dX0_endWeekOf_10 : decode cX0_endWeekOf 10 = .ok (.iaload, 1) := by decide +kernel
theorem dX0_endWeekOf_11 : decode cX0_endWeekOf 11 = .ok (.aload_n 0, 1) := by decide +kernel
theorem dX0_endWeekOf_12 : decode cX0_endWeekOf 12 = .ok (.getfield 24, 3) := by decide +kernel
theorem dX0_endWeekOf_15 : decode cX0_endWeekOf 15 = .ok (.iload_n 1, 1) := by decide +kernel
theorem dX0_endWeekOf_16 : decode cX0_endWeekOf 16 = .ok (.iaload, 1) := by decide +kernel
theorem dX0_endWeekOf_17 : decode cX0_endWeekOf 17 = .ok (.if_icmp .ge 14, 3) := by decide +kernel
theorem dX0_endWeekOf_20 : decode cX0_endWeekOf 20 = .ok (.aload_n 0, 1) := by decide +kernel
theorem dX0_endWeekOf_21 : decode cX0_endWeekOf 21 = .ok (.getfield 30, 3) := by decide +kernel
theorem dX0_endWeekOf_24 : decode cX0_endWeekOf 24 = .ok (.iload_n 1, 1) := by decide +kernel
theorem dX0_endWeekOf_25 : decode cX0_endWeekOf 25 = .ok (.iaload, 1) := by decide +kernel
theorem dX0_endWeekOf_26 : decode cX0_endWeekOf 26 = .ok (.iconst 1, 1) := by decide +kernel
theorem dX0_endWeekOf_27 : decode cX0_endWeekOf 27 = .ok (.iadd, 1) := by decide +kernel
theorem dX0_endWeekOf_28 : decode cX0_endWeekOf 28 = .ok (.goto 4, 3) := by decide +kernel
theorem dX0_endWeekOf_31 : decode cX0_endWeekOf 31 = .ok (.iconst 0, 1) := by decide +kernel
theorem dX0_endWeekOf_32 : decode cX0_endWeekOf 32 = .ok (.iastore, 1) := by decide +kernel
theorem dX0_endWeekOf_33 : decode cX0_endWeekOf 33 = .ok (.aload_n 0, 1) := by decide +kernel
theorem dX0_endWeekOf_34 : decode cX0_endWeekOf 34 = .ok (.getfield 27, 3) := by decide +kernel
theorem dX0_endWeekOf_37 : decode cX0_endWeekOf 37 = .ok (.iload_n 1, 1) := by decide +kernel
theorem dX0_endWeekOf_38 : decode cX0_endWeekOf 38 = .ok (.iconst 0, 1) := by decide +kernel
theorem dX0_endWeekOf_39 : decode cX0_endWeekOf 39 = .ok (.iastore, 1) := by decide +kernel
theorem dX0_endWeekOf_40 : decode cX0_endWeekOf 40 = .ok (.aload_n 0, 1) := by decide +kernel
theorem dX0_endWeekOf_41 : decode cX0_endWeekOf 41 = .ok (.getfield 30, 3) := by decide +kernel
theorem dX0_endWeekOf_44 : decode cX0_endWeekOf 44 = .ok (.iload_n 1, 1) := by decide +kernel
theorem dX0_endWeekOf_45 : decode cX0_endWeekOf 45 = .ok (.iaload, 1) := by decide +kernel
theorem dX0_endWeekOf_46 : decode cX0_endWeekOf 46 = .ok (.aload_n 0, 1) := by decide +kernel
theorem dX0_endWeekOf_47 : decode cX0_endWeekOf 47 = .ok (.getfield 33, 3) := by decide +kernel
theorem dX0_endWeekOf_50 : decode cX0_endWeekOf 50 = .ok (.iconst 1, 1) := by decide +kernel
theorem dX0_endWeekOf_51 : decode cX0_endWeekOf 51 = .ok (.iaload, 1) := by decide +kernel
theorem dX0_endWeekOf_52 : decode cX0_endWeekOf 52 = .ok (.if_icmp .ge 5, 3) := by decide +kernel
theorem dX0_endWeekOf_55 : decode cX0_endWeekOf 55 = .ok (.iconst 0, 1) := by decide +kernel
theorem dX0_endWeekOf_56 : decode cX0_endWeekOf 56 = .ok (.ireturn, 1) := by decide +kernel
theorem dX0_endWeekOf_57 : decode cX0_endWeekOf 57 = .ok (.aload_n 0, 1) := by decide +kernel
theorem dX0_endWeekOf_58 : decode cX0_endWeekOf 58 = .ok (.iload_n 1, 1) := by decide +kernel
theorem dX0_endWeekOf_59 : decode cX0_endWeekOf 59 = .ok (.invokevirtual 127, 3) := by decide +kernel
theorem dX0_endWeekOf_62 : decode cX0_endWeekOf 62 = .ok (.iconst 1, 1) := by decide +kernel
theorem dX0_endWeekOf_63 : decode cX0_endWeekOf 63 = .ok (.ireturn, 1) := by decide +kernel
set_option maxRecDepth 20000 in
theorem ggX0_takeDue_X0_ownLeft : GoodIn wsX0_takeDue wsX0_ownLeft := goodIn_r _ [12, 6, 13, 14, 15, 11, 16, 7, 20, 21, 22, 23, 24, 25, 26, 27, 28, 29, 30, 31, 32, 33, 34, 35] (by decide +kernel) (by decide +kernel)
set_option maxRecDepth 20000 in
theorem gX0_takeDue_X0_ownLeft : GoodIn wsX0_takeDue (wsV RX0 85 RX0 yX0_ownLeft wsX0_ownLeft) := goodIn_app (goodIn_of _ (by decide +kernel)) ggX0_takeDue_X0_ownLeft
set_option maxRecDepth 20000 in
theorem ggX0_takeDue_X0_place : GoodIn wsX0_takeDue wsX0_place := goodIn_r _ [19] (by decide +kernel) (by decide +kernel)
set_option maxRecDepth 20000 in
theorem gX0_takeDue_X0_place : GoodIn wsX0_takeDue (va_wsS RX0 101 yX0_place wsX0_place) := goodIn_app (goodIn_of _ (by decide +kernel)) ggX0_takeDue_X0_place
theorem dX0_takeDue_0 : decode cX0_takeDue 0 = .ok (.aload_n 0, 1) := by decide +kernel
theorem dX0_takeDue_1 : decode cX0_takeDue 1 = .ok (.getfield 21, 3) := by decide +kernel
theorem dX0_takeDue_4 : decode cX0_takeDue 4 = .ok (.iload_n 1, 1) := by decide +kernel
theorem dX0_takeDue_5 : decode cX0_takeDue 5 = .ok (.iaload, 1) := by decide +kernel
theorem dX0_takeDue_6 : decode cX0_takeDue 6 = .ok (.istore_n 2, 1) := by decide +kernel
theorem dX0_takeDue_7 : decode cX0_takeDue 7 = .ok (.iload_n 2, 1) := by decide +kernel
theorem dX0_takeDue_8 : decode cX0_takeDue 8 = .ok (.aload_n 0, 1) := by decide +kernel
theorem dX0_takeDue_9 : decode cX0_takeDue 9 = .ok (.iload_n 1, 1) := by decide +kernel
theorem dX0_takeDue_10 : decode cX0_takeDue 10 = .ok (.invokevirtual 85, 3) := by decide +kernel
theorem dX0_takeDue_13 : decode cX0_takeDue 13 = .ok (.invokestatic 65, 3) := by decide +kernel
theorem dX0_takeDue_16 : decode cX0_takeDue 16 = .ok (.istore_n 3, 1) := by decide +kernel
theorem dX0_takeDue_17 : decode cX0_takeDue 17 = .ok (.aload_n 0, 1) := by decide +kernel
theorem dX0_takeDue_18 : decode cX0_takeDue 18 = .ok (.getfield 9, 3) := by decide +kernel
theorem dX0_takeDue_21 : decode cX0_takeDue 21 = .ok (.iload_n 1, 1) := by decide +kernel
theorem dX0_takeDue_22 : decode cX0_takeDue 22 = .ok (.dup2, 1) := by decide +kernel
theorem dX0_takeDue_23 : decode cX0_takeDue 23 = .ok (.iaload, 1) := by decide +kernel
theorem dX0_takeDue_24 : decode cX0_takeDue 24 = .ok (.iload_n 3, 1) := by decide +kernel
theorem dX0_takeDue_25 : decode cX0_takeDue 25 = .ok (.isub, 1) := by decide +kernel
theorem dX0_takeDue_26 : decode cX0_takeDue 26 = .ok (.iastore, 1) := by decide +kernel
theorem dX0_takeDue_27 : decode cX0_takeDue 27 = .ok (.iload_n 2, 1) := by decide +kernel
theorem dX0_takeDue_28 : decode cX0_takeDue 28 = .ok (.iload_n 3, 1) := by decide +kernel
theorem dX0_takeDue_29 : decode cX0_takeDue 29 = .ok (.isub, 1) := by decide +kernel
theorem dX0_takeDue_30 : decode cX0_takeDue 30 = .ok (.istore_n 2, 1) := by decide +kernel
theorem dX0_takeDue_31 : decode cX0_takeDue 31 = .ok (.iconst 0, 1) := by decide +kernel
theorem dX0_takeDue_32 : decode cX0_takeDue 32 = .ok (.istore 4, 2) := by decide +kernel
theorem dX0_takeDue_34 : decode cX0_takeDue 34 = .ok (.iload 4, 2) := by decide +kernel
theorem dX0_takeDue_36 : decode cX0_takeDue 36 = .ok (.bipush 6, 2) := by decide +kernel
theorem dX0_takeDue_38 : decode cX0_takeDue 38 = .ok (.if_icmp .ge 59, 3) := by decide +kernel
theorem dX0_takeDue_41 : decode cX0_takeDue 41 = .ok (.iload 4, 2) := by decide +kernel
theorem dX0_takeDue_43 : decode cX0_takeDue 43 = .ok (.iload_n 1, 1) := by decide +kernel
theorem dX0_takeDue_44 : decode cX0_takeDue 44 = .ok (.invokestatic 101, 3) := by decide +kernel
theorem dX0_takeDue_47 : decode cX0_takeDue 47 = .ok (.istore 5, 2) := by decide +kernel
theorem dX0_takeDue_49 : decode cX0_takeDue 49 = .ok (.iload_n 2, 1) := by decide +kernel
theorem dX0_takeDue_50 : decode cX0_takeDue 50 = .ok (.aload_n 0, 1) := by decide +kernel
theorem dX0_takeDue_51 : decode cX0_takeDue 51 = .ok (.getfield 18, 3) := by decide +kernel
theorem dX0_takeDue_54 : decode cX0_takeDue 54 = .ok (.iload 5, 2) := by decide +kernel
theorem dX0_takeDue_56 : decode cX0_takeDue 56 = .ok (.iaload, 1) := by decide +kernel
theorem dX0_takeDue_57 : decode cX0_takeDue 57 = .ok (.invokestatic 65, 3) := by decide +kernel
theorem dX0_takeDue_60 : decode cX0_takeDue 60 = .ok (.istore 6, 2) := by decide +kernel
theorem dX0_takeDue_62 : decode cX0_takeDue 62 = .ok (.aload_n 0, 1) := by decide +kernel
theorem dX0_takeDue_63 : decode cX0_takeDue 63 = .ok (.getfield 9, 3) := by decide +kernel
theorem dX0_takeDue_66 : decode cX0_takeDue 66 = .ok (.iload 4, 2) := by decide +kernel
theorem dX0_takeDue_68 : decode cX0_takeDue 68 = .ok (.dup2, 1) := by decide +kernel
theorem dX0_takeDue_69 : decode cX0_takeDue 69 = .ok (.iaload, 1) := by decide +kernel
theorem dX0_takeDue_70 : decode cX0_takeDue 70 = .ok (.iload 6, 2) := by decide +kernel
theorem dX0_takeDue_72 : decode cX0_takeDue 72 = .ok (.isub, 1) := by decide +kernel
theorem dX0_takeDue_73 : decode cX0_takeDue 73 = .ok (.iastore, 1) := by decide +kernel
theorem dX0_takeDue_74 : decode cX0_takeDue 74 = .ok (.aload_n 0, 1) := by decide +kernel
theorem dX0_takeDue_75 : decode cX0_takeDue 75 = .ok (.getfield 18, 3) := by decide +kernel
theorem dX0_takeDue_78 : decode cX0_takeDue 78 = .ok (.iload 5, 2) := by decide +kernel
theorem dX0_takeDue_80 : decode cX0_takeDue 80 = .ok (.dup2, 1) := by decide +kernel
theorem dX0_takeDue_81 : decode cX0_takeDue 81 = .ok (.iaload, 1) := by decide +kernel
theorem dX0_takeDue_82 : decode cX0_takeDue 82 = .ok (.iload 6, 2) := by decide +kernel
theorem dX0_takeDue_84 : decode cX0_takeDue 84 = .ok (.isub, 1) := by decide +kernel
theorem dX0_takeDue_85 : decode cX0_takeDue 85 = .ok (.iastore, 1) := by decide +kernel
theorem dX0_takeDue_86 : decode cX0_takeDue 86 = .ok (.iload_n 2, 1) := by decide +kernel
theorem dX0_takeDue_87 : decode cX0_takeDue 87 = .ok (.iload 6, 2) := by decide +kernel
theorem dX0_takeDue_89 : decode cX0_takeDue 89 = .ok (.isub, 1) := by decide +kernel
theorem dX0_takeDue_90 : decode cX0_takeDue 90 = .ok (.istore_n 2, 1) := by decide +kernel
theorem dX0_takeDue_91 : decode cX0_takeDue 91 = .ok (.iinc 4 1, 3) := by decide +kernel
theorem dX0_takeDue_94 : decode cX0_takeDue 94 = .ok (.goto (-60), 3) := by decide +kernel
theorem dX0_takeDue_97 : decode cX0_takeDue 97 = .ok (.aload_n 0, 1) := by decide +kernel
theorem dX0_takeDue_98 : decode cX0_takeDue 98 = .ok (.getfield 21, 3) := by decide +kernel
theorem dX0_takeDue_101 : decode cX0_takeDue 101 = .ok (.iload_n 1, 1) := by decide +kernel
theorem dX0_takeDue_102 : decode cX0_takeDue 102 = .ok (.iconst 0, 1) := by decide +kernel
theorem dX0_takeDue_103 : decode cX0_takeDue 103 = .ok (.iastore, 1) := by decide +kernel
theorem dX0_takeDue_104 : decode cX0_takeDue 104 = .ok (.return_, 1) := by decide +kernel
theorem dX0_canAddDays_0 : decode cX0_canAddDays 0 = .ok (.aload_n 0, 1) := by decide +kernel
theorem dX0_canAddDays_1 : decode cX0_canAddDays 1 = .ok (.getfield 56, 3) := by decide +kernel
theorem dX0_canAddDays_4 : decode cX0_canAddDays 4 = .ok (.iload_n 1, 1) := by decide +kernel
theorem dX0_canAddDays_5 : decode cX0_canAddDays 5 = .ok (.iadd, 1) := by decide +kernel
theorem dX0_canAddDays_6 : decode cX0_canAddDays 6 = .ok (.sipush 9999, 3) := by decide +kernel
theorem dX0_canAddDays_9 : decode cX0_canAddDays 9 = .ok (.if_icmp .le 5, 3) := by decide +kernel
theorem dX0_canAddDays_12 : decode cX0_canAddDays 12 = .ok (.iconst 0, 1) := by decide +kernel
theorem dX0_canAddDays_13 : decode cX0_canAddDays 13 = .ok (.ireturn, 1) := by decide +kernel
theorem dX0_canAddDays_14 : decode cX0_canAddDays 14 = .ok (.iconst 0, 1) := by decide +kernel
theorem dX0_canAddDays_15 : decode cX0_canAddDays 15 = .ok (.istore_n 2, 1) := by decide +kernel
theorem dX0_canAddDays_16 : decode cX0_canAddDays 16 = .ok (.iload_n 2, 1) := by decide +kernel
theorem dX0_canAddDays_17 : decode cX0_canAddDays 17 = .ok (.bipush 6, 2) := by decide +kernel
theorem dX0_canAddDays_19 : decode cX0_canAddDays 19 = .ok (.if_icmp .ge 36, 3) := by decide +kernel
theorem dX0_canAddDays_22 : decode cX0_canAddDays 22 = .ok (.aload_n 0, 1) := by decide +kernel
theorem dX0_canAddDays_23 : decode cX0_canAddDays 23 = .ok (.getfield 15, 3) := by decide +kernel
theorem dX0_canAddDays_26 : decode cX0_canAddDays 26 = .ok (.iload_n 2, 1) := by decide +kernel
theorem dX0_canAddDays_27 : decode cX0_canAddDays 27 = .ok (.iaload, 1) := by decide +kernel
theorem dX0_canAddDays_28 : decode cX0_canAddDays 28 = .ok (.i2l, 1) := by decide +kernel
theorem dX0_canAddDays_29 : decode cX0_canAddDays 29 = .ok (.aload_n 0, 1) := by decide +kernel
theorem dX0_canAddDays_30 : decode cX0_canAddDays 30 = .ok (.getfield 9, 3) := by decide +kernel
theorem dX0_canAddDays_33 : decode cX0_canAddDays 33 = .ok (.iload_n 2, 1) := by decide +kernel
theorem dX0_canAddDays_34 : decode cX0_canAddDays 34 = .ok (.iaload, 1) := by decide +kernel
theorem dX0_canAddDays_35 : decode cX0_canAddDays 35 = .ok (.i2l, 1) := by decide +kernel
theorem dX0_canAddDays_36 : decode cX0_canAddDays 36 = .ok (.iload_n 1, 1) := by decide +kernel
theorem dX0_canAddDays_37 : decode cX0_canAddDays 37 = .ok (.i2l, 1) := by decide +kernel
theorem dX0_canAddDays_38 : decode cX0_canAddDays 38 = .ok (.lmul, 1) := by decide +kernel
theorem dX0_canAddDays_39 : decode cX0_canAddDays 39 = .ok (.ladd, 1) := by decide +kernel
theorem dX0_canAddDays_40 : decode cX0_canAddDays 40 = .ok (.ldc2_w 131, 3) := by decide +kernel
theorem dX0_canAddDays_43 : decode cX0_canAddDays 43 = .ok (.lcmp, 1) := by decide +kernel
theorem dX0_canAddDays_44 : decode cX0_canAddDays 44 = .ok (.ifCond .le 5, 3) := by decide +kernel
theorem dX0_canAddDays_47 : decode cX0_canAddDays 47 = .ok (.iconst 0, 1) := by decide +kernel
theorem dX0_canAddDays_48 : decode cX0_canAddDays 48 = .ok (.ireturn, 1) := by decide +kernel
theorem dX0_canAddDays_49 : decode cX0_canAddDays 49 = .ok (.iinc 2 1, 3) := by decide +kernel
theorem dX0_canAddDays_52 : decode cX0_canAddDays 52 = .ok (.goto (-36), 3) := by decide +kernel
theorem dX0_canAddDays_55 : decode cX0_canAddDays 55 = .ok (.iconst 1, 1) := by decide +kernel
theorem dX0_canAddDays_56 : decode cX0_canAddDays 56 = .ok (.ireturn, 1) := by decide +kernel
theorem dX0_addDays_0 : decode cX0_addDays 0 = .ok (.iconst 0, 1) := by decide +kernel
theorem dX0_addDays_1 : decode cX0_addDays 1 = .ok (.istore_n 2, 1) := by decide +kernel
theorem dX0_addDays_2 : decode cX0_addDays 2 = .ok (.iload_n 2, 1) := by decide +kernel
theorem dX0_addDays_3 : decode cX0_addDays 3 = .ok (.bipush 6, 2) := by decide +kernel
theorem dX0_addDays_5 : decode cX0_addDays 5 = .ok (.if_icmp .ge 26, 3) := by decide +kernel
theorem dX0_addDays_8 : decode cX0_addDays 8 = .ok (.aload_n 0, 1) := by decide +kernel
theorem dX0_addDays_9 : decode cX0_addDays 9 = .ok (.getfield 15, 3) := by decide +kernel
theorem dX0_addDays_12 : decode cX0_addDays 12 = .ok (.iload_n 2, 1) := by decide +kernel
theorem dX0_addDays_13 : decode cX0_addDays 13 = .ok (.dup2, 1) := by decide +kernel
theorem dX0_addDays_14 : decode cX0_addDays 14 = .ok (.iaload, 1) := by decide +kernel
theorem dX0_addDays_15 : decode cX0_addDays 15 = .ok (.aload_n 0, 1) := by decide +kernel
theorem dX0_addDays_16 : decode cX0_addDays 16 = .ok (.getfield 9, 3) := by decide +kernel
theorem dX0_addDays_19 : decode cX0_addDays 19 = .ok (.iload_n 2, 1) := by decide +kernel
theorem dX0_addDays_20 : decode cX0_addDays 20 = .ok (.iaload, 1) := by decide +kernel
theorem dX0_addDays_21 : decode cX0_addDays 21 = .ok (.iload_n 1, 1) := by decide +kernel
theorem dX0_addDays_22 : decode cX0_addDays 22 = .ok (.imul, 1) := by decide +kernel
theorem dX0_addDays_23 : decode cX0_addDays 23 = .ok (.iadd, 1) := by decide +kernel
theorem dX0_addDays_24 : decode cX0_addDays 24 = .ok (.iastore, 1) := by decide +kernel
theorem dX0_addDays_25 : decode cX0_addDays 25 = .ok (.iinc 2 1, 3) := by decide +kernel
theorem dX0_addDays_28 : decode cX0_addDays 28 = .ok (.goto (-26), 3) := by decide +kernel
theorem dX0_addDays_31 : decode cX0_addDays 31 = .ok (.aload_n 0, 1) := by decide +kernel
theorem dX0_addDays_32 : decode cX0_addDays 32 = .ok (.dup, 1) := by decide +kernel
theorem dX0_addDays_33 : decode cX0_addDays 33 = .ok (.getfield 56, 3) := by decide +kernel
theorem dX0_addDays_36 : decode cX0_addDays 36 = .ok (.iload_n 1, 1) := by decide +kernel
theorem dX0_addDays_37 : decode cX0_addDays 37 = .ok (.iadd, 1) := by decide +kernel
theorem dX0_addDays_38 : decode cX0_addDays 38 = .ok (.putfield 56, 3) := by decide +kernel
theorem dX0_addDays_41 : decode cX0_addDays 41 = .ok (.aload_n 0, 1) := by decide +kernel
theorem dX0_addDays_42 : decode cX0_addDays 42 = .ok (.getfield 56, 3) := by decide +kernel
theorem dX0_addDays_45 : decode cX0_addDays 45 = .ok (.ireturn, 1) := by decide +kernel
theorem dX0_dividendOf_0 : decode cX0_dividendOf 0 = .ok (.lload_n 2, 1) := by decide +kernel
theorem dX0_dividendOf_1 : decode cX0_dividendOf 1 = .ok (.lconst 1, 1) := by decide +kernel
theorem dX0_dividendOf_2 : decode cX0_dividendOf 2 = .ok (.lcmp, 1) := by decide +kernel
theorem dX0_dividendOf_3 : decode cX0_dividendOf 3 = .ok (.ifCond .ge 7, 3) := by decide +kernel
theorem dX0_dividendOf_6 : decode cX0_dividendOf 6 = .ok (.iconst 0, 1) := by decide +kernel
theorem dX0_dividendOf_7 : decode cX0_dividendOf 7 = .ok (.goto 19, 3) := by decide +kernel
theorem dX0_dividendOf_10 : decode cX0_dividendOf 10 = .ok (.aload_n 0, 1) := by decide +kernel
theorem dX0_dividendOf_11 : decode cX0_dividendOf 11 = .ok (.getfield 44, 3) := by decide +kernel
theorem dX0_dividendOf_14 : decode cX0_dividendOf 14 = .ok (.i2l, 1) := by decide +kernel
theorem dX0_dividendOf_15 : decode cX0_dividendOf 15 = .ok (.aload_n 0, 1) := by decide +kernel
theorem dX0_dividendOf_16 : decode cX0_dividendOf 16 = .ok (.getfield 15, 3) := by decide +kernel
theorem dX0_dividendOf_19 : decode cX0_dividendOf 19 = .ok (.iload_n 1, 1) := by decide +kernel
theorem dX0_dividendOf_20 : decode cX0_dividendOf 20 = .ok (.iaload, 1) := by decide +kernel
theorem dX0_dividendOf_21 : decode cX0_dividendOf 21 = .ok (.i2l, 1) := by decide +kernel
theorem dX0_dividendOf_22 : decode cX0_dividendOf 22 = .ok (.lmul, 1) := by decide +kernel
theorem dX0_dividendOf_23 : decode cX0_dividendOf 23 = .ok (.lload_n 2, 1) := by decide +kernel
theorem dX0_dividendOf_24 : decode cX0_dividendOf 24 = .ok (.ldiv, 1) := by decide +kernel
theorem dX0_dividendOf_25 : decode cX0_dividendOf 25 = .ok (.l2i, 1) := by decide +kernel
theorem dX0_dividendOf_26 : decode cX0_dividendOf 26 = .ok (.ireturn, 1) := by decide +kernel
set_option maxRecDepth 20000 in
theorem ggX0_shareOut_X0_allShareDays : GoodIn wsX0_shareOut wsX0_allShareDays := goodIn_r _ [10, 3, 15, 16, 17, 18, 19, 20, 21, 22, 23, 24, 25, 26, 27, 28, 29, 30] (by decide +kernel) (by decide +kernel)
set_option maxRecDepth 20000 in
theorem gX0_shareOut_X0_allShareDays : GoodIn wsX0_shareOut (wsV RX0 133 RX0 yX0_allShareDays wsX0_allShareDays) := goodIn_app (goodIn_of _ (by decide +kernel)) ggX0_shareOut_X0_allShareDays
set_option maxRecDepth 20000 in
theorem ggX0_shareOut_X0_dividendOf : GoodIn wsX0_shareOut wsX0_dividendOf := goodIn_r _ [14, 4, 3, 15, 16, 17, 18, 19, 20, 21, 22, 23, 24, 25, 26, 27, 28, 29, 30] (by decide +kernel) (by decide +kernel)
set_option maxRecDepth 20000 in
theorem gX0_shareOut_X0_dividendOf : GoodIn wsX0_shareOut (wsV RX0 137 RX0 yX0_dividendOf wsX0_dividendOf) := goodIn_app (goodIn_of _ (by decide +kernel)) ggX0_shareOut_X0_dividendOf
theorem dX0_shareOut_0 : decode cX0_shareOut 0 = .ok (.aload_n 0, 1) := by decide +kernel
theorem dX0_shareOut_1 : decode cX0_shareOut 1 = .ok (.invokevirtual 133, 3) := by decide +kernel
theorem dX0_shareOut_4 : decode cX0_shareOut 4 = .ok (.lstore_n 1, 1) := by decide +kernel
theorem dX0_shareOut_5 : decode cX0_shareOut 5 = .ok (.lload_n 1, 1) := by decide +kernel
theorem dX0_shareOut_6 : decode cX0_shareOut 6 = .ok (.lconst 1, 1) := by decide +kernel
theorem dX0_shareOut_7 : decode cX0_shareOut 7 = .ok (.lcmp, 1) := by decide +kernel
theorem dX0_shareOut_8 : decode cX0_shareOut 8 = .ok (.ifCond .ge 15, 3) := by decide +kernel
theorem dX0_shareOut_11 : decode cX0_shareOut 11 = .ok (.aload_n 0, 1) := by decide +kernel
theorem dX0_shareOut_12 : decode cX0_shareOut 12 = .ok (.dup, 1) := by decide +kernel
theorem dX0_shareOut_13 : decode cX0_shareOut 13 = .ok (.getfield 59, 3) := by decide +kernel
theorem dX0_shareOut_16 : decode cX0_shareOut 16 = .ok (.iconst 1, 1) := by decide +kernel
theorem dX0_shareOut_17 : decode cX0_shareOut 17 = .ok (.iadd, 1) := by decide +kernel
theorem dX0_shareOut_18 : decode cX0_shareOut 18 = .ok (.putfield 59, 3) := by decide +kernel
theorem dX0_shareOut_21 : decode cX0_shareOut 21 = .ok (.iconst (-1), 1) := by decide +kernel
theorem dX0_shareOut_22 : decode cX0_shareOut 22 = .ok (.ireturn, 1) := by decide +kernel
theorem dX0_shareOut_23 : decode cX0_shareOut 23 = .ok (.iconst 0, 1) := by decide +kernel
theorem dX0_shareOut_24 : decode cX0_shareOut 24 = .ok (.istore_n 3, 1) := by decide +kernel
theorem dX0_shareOut_25 : decode cX0_shareOut 25 = .ok (.iconst 0, 1) := by decide +kernel
theorem dX0_shareOut_26 : decode cX0_shareOut 26 = .ok (.istore 4, 2) := by decide +kernel
theorem dX0_shareOut_28 : decode cX0_shareOut 28 = .ok (.iload 4, 2) := by decide +kernel
theorem dX0_shareOut_30 : decode cX0_shareOut 30 = .ok (.bipush 6, 2) := by decide +kernel
theorem dX0_shareOut_32 : decode cX0_shareOut 32 = .ok (.if_icmp .ge 43, 3) := by decide +kernel
theorem dX0_shareOut_35 : decode cX0_shareOut 35 = .ok (.aload_n 0, 1) := by decide +kernel
theorem dX0_shareOut_36 : decode cX0_shareOut 36 = .ok (.iload 4, 2) := by decide +kernel
theorem dX0_shareOut_38 : decode cX0_shareOut 38 = .ok (.lload_n 1, 1) := by decide +kernel
theorem dX0_shareOut_39 : decode cX0_shareOut 39 = .ok (.invokevirtual 137, 3) := by decide +kernel
theorem dX0_shareOut_42 : decode cX0_shareOut 42 = .ok (.istore 5, 2) := by decide +kernel
theorem dX0_shareOut_44 : decode cX0_shareOut 44 = .ok (.aload_n 0, 1) := by decide +kernel
theorem dX0_shareOut_45 : decode cX0_shareOut 45 = .ok (.getfield 9, 3) := by decide +kernel
theorem dX0_shareOut_48 : decode cX0_shareOut 48 = .ok (.iload 4, 2) := by decide +kernel
theorem dX0_shareOut_50 : decode cX0_shareOut 50 = .ok (.dup2, 1) := by decide +kernel
theorem dX0_shareOut_51 : decode cX0_shareOut 51 = .ok (.iaload, 1) := by decide +kernel
theorem dX0_shareOut_52 : decode cX0_shareOut 52 = .ok (.iload 5, 2) := by decide +kernel
theorem dX0_shareOut_54 : decode cX0_shareOut 54 = .ok (.iadd, 1) := by decide +kernel
theorem dX0_shareOut_55 : decode cX0_shareOut 55 = .ok (.iastore, 1) := by decide +kernel
theorem dX0_shareOut_56 : decode cX0_shareOut 56 = .ok (.aload_n 0, 1) := by decide +kernel
theorem dX0_shareOut_57 : decode cX0_shareOut 57 = .ok (.getfield 15, 3) := by decide +kernel
theorem dX0_shareOut_60 : decode cX0_shareOut 60 = .ok (.iload 4, 2) := by decide +kernel
theorem dX0_shareOut_62 : decode cX0_shareOut 62 = .ok (.iconst 0, 1) := by decide +kernel
theorem dX0_shareOut_63 : decode cX0_shareOut 63 = .ok (.iastore, 1) := by decide +kernel
theorem dX0_shareOut_64 : decode cX0_shareOut 64 = .ok (.iload_n 3, 1) := by decide +kernel
theorem dX0_shareOut_65 : decode cX0_shareOut 65 = .ok (.iload 5, 2) := by decide +kernel
theorem dX0_shareOut_67 : decode cX0_shareOut 67 = .ok (.iadd, 1) := by decide +kernel
theorem dX0_shareOut_68 : decode cX0_shareOut 68 = .ok (.istore_n 3, 1) := by decide +kernel
theorem dX0_shareOut_69 : decode cX0_shareOut 69 = .ok (.iinc 4 1, 3) := by decide +kernel
theorem dX0_shareOut_72 : decode cX0_shareOut 72 = .ok (.goto (-44), 3) := by decide +kernel
theorem dX0_shareOut_75 : decode cX0_shareOut 75 = .ok (.aload_n 0, 1) := by decide +kernel
theorem dX0_shareOut_76 : decode cX0_shareOut 76 = .ok (.dup, 1) := by decide +kernel
theorem dX0_shareOut_77 : decode cX0_shareOut 77 = .ok (.getfield 44, 3) := by decide +kernel
theorem dX0_shareOut_80 : decode cX0_shareOut 80 = .ok (.iload_n 3, 1) := by decide +kernel
theorem dX0_shareOut_81 : decode cX0_shareOut 81 = .ok (.isub, 1) := by decide +kernel
theorem dX0_shareOut_82 : decode cX0_shareOut 82 = .ok (.putfield 44, 3) := by decide +kernel
theorem dX0_shareOut_85 : decode cX0_shareOut 85 = .ok (.aload_n 0, 1) := by decide +kernel
theorem dX0_shareOut_86 : decode cX0_shareOut 86 = .ok (.dup, 1) := by decide +kernel
theorem dX0_shareOut_87 : decode cX0_shareOut 87 = .ok (.getfield 62, 3) := by decide +kernel
theorem dX0_shareOut_90 : decode cX0_shareOut 90 = .ok (.iload_n 3, 1) := by decide +kernel
theorem dX0_shareOut_91 : decode cX0_shareOut 91 = .ok (.iadd, 1) := by decide +kernel
theorem dX0_shareOut_92 : decode cX0_shareOut 92 = .ok (.putfield 62, 3) := by decide +kernel
theorem dX0_shareOut_95 : decode cX0_shareOut 95 = .ok (.iload_n 3, 1) := by decide +kernel
theorem dX0_shareOut_96 : decode cX0_shareOut 96 = .ok (.ireturn, 1) := by decide +kernel

/-! the law's words stand in the tables -/
section
theorem zmemp {big ws : List Cond} (ps : List Nat) (hp : ws = ps.filterMap (fun i => big[i]?)) : ∀ w ∈ ws, w ∈ big := fun w hw => by
  rw [hp] at hw
  obtain ⟨i, -, hi⟩ := List.mem_filterMap.mp hw
  exact List.mem_of_getElem? hi
theorem zap {big a b : List Cond} (ha : ∀ w ∈ a, w ∈ big) (hb : ∀ w ∈ b, w ∈ big) : ∀ w ∈ a ++ b, w ∈ big := fun w h => (List.mem_append.mp h).elim (ha w) (hb w)
theorem wsL_law0_r1_in : ∀ w ∈ wsL_law0_r1, w ∈ lw_tbl := zmemp [82, 83, 69, 808, 809, 72, 1176, 84, 85, 86, 87, 88, 89, 90, 91, 70, 189, 190, 192, 187, 193, 188, 194, 157] (by decide +kernel)
theorem wsL_law0_r2_in : ∀ w ∈ wsL_law0_r2, w ∈ lw_tbl := zmemp [158, 71, 196, 155, 197, 93, 94, 95, 96, 97, 98, 100, 101, 102, 103, 104, 160, 161, 162, 810, 811, 812, 813, 815] (by decide +kernel)
theorem wsL_law0_r3_in : ∀ w ∈ wsL_law0_r3, w ∈ lw_tbl := zmemp [817, 818, 826, 461, 462, 68, 463, 464, 465, 466, 467, 468, 469, 470, 471, 472, 473, 76, 541, 542, 543, 544, 545, 546] (by decide +kernel)
theorem wsL_law0_r4_in : ∀ w ∈ wsL_law0_r4, w ∈ lw_tbl := zmemp [547, 77, 221, 223, 0, 224, 191, 225, 227, 1, 228, 229, 230, 231, 232, 106, 108, 110, 112, 114, 116, 118, 120, 233] (by decide +kernel)
theorem wsL_law0_r5_in : ∀ w ∈ wsL_law0_r5, w ∈ lw_tbl := zmemp [234, 235, 236, 237, 78, 238, 239, 241, 240, 79, 563, 564, 565, 566, 567, 861, 862, 863, 864, 865, 867, 24, 868, 869] (by decide +kernel)
theorem wsL_law0_r6_in : ∀ w ∈ wsL_law0_r6, w ∈ lw_tbl := zmemp [870, 871, 872, 873, 874, 875, 876, 877, 878, 880, 25, 881, 814, 882, 884, 26, 885, 816, 886, 888, 27, 889, 890, 892] (by decide +kernel)
theorem wsL_law0_r7_in : ∀ w ∈ wsL_law0_r7, w ∈ lw_tbl := zmemp [28, 893, 898, 894, 896, 29, 897, 899, 901, 30, 902, 903, 905, 31, 906, 857, 858, 859, 860, 568, 569, 570, 571, 572] (by decide +kernel)
theorem wsL_law0_r8_in : ∀ w ∈ wsL_law0_r8, w ∈ lw_tbl := zmemp [573, 574, 575, 576, 577, 578, 381, 382, 383, 384, 385, 386, 387, 321, 322, 323, 324, 325, 326, 327, 328, 373, 374, 375] (by decide +kernel)
theorem wsL_law0_r9_in : ∀ w ∈ wsL_law0_r9, w ∈ lw_tbl := zmemp [376, 907, 908, 909, 910, 911, 913, 32, 914, 915, 917, 33, 918, 919, 921, 34, 922, 923, 925, 35, 926, 927, 929, 36] (by decide +kernel)
theorem wsL_law0_r10_in : ∀ w ∈ wsL_law0_r10, w ∈ lw_tbl := zmemp [930, 931, 933, 37, 934, 579, 580, 581, 582, 583, 584, 585, 586, 587, 588, 590, 591, 592, 593, 594, 389, 390, 935, 936] (by decide +kernel)
theorem wsL_law0_r11_in : ∀ w ∈ wsL_law0_r11, w ∈ lw_tbl := zmemp [937, 938, 939, 941, 38, 942, 943, 945, 39, 946, 595, 596, 597, 598, 599, 600, 601, 602, 603, 604, 605, 377, 378, 379] (by decide +kernel)
theorem wsL_law0_r12_in : ∀ w ∈ wsL_law0_r12, w ∈ lw_tbl := zmemp [380, 947, 948, 949, 950, 951, 953, 40, 954, 955, 957, 41, 958, 606, 607, 608, 609, 610, 611, 612, 613, 614, 615, 616] (by decide +kernel)
theorem wsL_law0_r13_in : ∀ w ∈ wsL_law0_r13, w ∈ lw_tbl := zmemp [617, 396, 397, 398, 329, 330, 331, 332, 399, 400, 401, 402, 403, 404, 405, 406, 407, 408, 409, 410, 959, 960, 961, 962] (by decide +kernel)
theorem wsL_law0_r14_in : ∀ w ∈ wsL_law0_r14, w ∈ lw_tbl := zmemp [963, 965, 42, 966, 967, 969, 43, 970, 971, 972, 973, 618, 619, 620, 621, 622, 623, 624, 625, 626, 627, 628, 974, 975] (by decide +kernel)
theorem wsL_law0_r15_in : ∀ w ∈ wsL_law0_r15, w ∈ lw_tbl := zmemp [976, 977, 978, 980, 44, 981, 629, 630, 631, 632, 633, 634, 635, 636, 641, 80, 637, 638, 639, 640, 657, 658, 659, 660] (by decide +kernel)
theorem wsL_law0_r16_in : ∀ w ∈ wsL_law0_r16, w ∈ lw_tbl := zmemp [661, 663, 20, 664, 665, 667, 21, 668, 982, 983, 984, 985, 986, 988, 45, 989, 990, 992, 46, 993, 994, 996, 47, 997] (by decide +kernel)
theorem wsL_law0_r17_in : ∀ w ∈ wsL_law0_r17, w ∈ lw_tbl := zmemp [669, 670, 671, 672, 673, 674, 675, 676, 677, 678, 679, 680, 682, 683, 684, 685, 998, 999, 1000, 1001, 1002, 217, 218, 219] (by decide +kernel)
theorem wsL_law0_r18_in : ∀ w ∈ wsL_law0_r18, w ∈ lw_tbl := zmemp [220, 242, 243, 244, 245, 246, 247, 248, 249, 250, 251, 252, 253, 1003, 1004, 1005, 1006, 1007, 1009, 48, 1010, 1011, 1013, 49] (by decide +kernel)
theorem wsL_law0_r19_in : ∀ w ∈ wsL_law0_r19, w ∈ lw_tbl := zmemp [1014, 686, 687, 688, 689, 690, 691, 692, 105, 693, 694, 695, 1015, 1016, 1017, 1018, 697, 698, 699, 700, 701, 702, 703, 195] (by decide +kernel)
theorem wsL_law0_r20_in : ∀ w ∈ wsL_law0_r20, w ∈ lw_tbl := zmemp [1019, 1020, 1021, 1022, 819, 254, 255, 256, 257, 1023, 1024, 1025, 1026, 258, 259, 260, 261, 262, 264, 2, 265, 266, 267, 268] (by decide +kernel)
theorem wsL_law0_r21_in : ∀ w ∈ wsL_law0_r21, w ∈ lw_tbl := zmemp [269, 163, 164, 170, 172, 270, 271, 272, 273, 274, 276, 3, 277, 278, 279, 280, 281, 282, 283, 285, 4, 286, 287, 289] (by decide +kernel)
theorem wsL_law0_r22_in : ∀ w ∈ wsL_law0_r22, w ∈ lw_tbl := zmemp [5, 290, 166, 291, 292, 293, 294, 296, 6, 297, 298, 300, 7, 301, 168, 302, 304, 8, 305, 306, 307, 308, 309, 311] (by decide +kernel)
theorem wsL_law0_r23_in : ∀ w ∈ wsL_law0_r23, w ∈ lw_tbl := zmemp [9, 312, 1027, 1028, 1029, 1030, 820, 1031, 1033, 50, 1034, 1035, 1037, 51, 1038, 821, 822, 823, 824, 825, 1039, 1041, 52, 1042] (by decide +kernel)
theorem wsL_law0_r24_in : ∀ w ∈ wsL_law0_r24, w ∈ lw_tbl := zmemp [1043, 1045, 53, 1046, 1047, 1049, 54, 1050, 1051, 1053, 55, 1054, 705, 706, 707, 708, 709, 710, 711, 712, 714, 716, 22, 717] (by decide +kernel)
theorem wsL_law0_r25_in : ∀ w ∈ wsL_law0_r25, w ∈ lw_tbl := zmemp [718, 720, 23, 721, 165, 167, 171, 169, 173, 1055, 1056, 1057, 1058, 1059, 1061, 56, 1062, 722, 723, 724, 725, 726, 727, 728] (by decide +kernel)
theorem wsL_law0_r26_in : ∀ w ∈ wsL_law0_r26, w ∈ lw_tbl := zmemp [361, 362, 363, 364, 1063, 1064, 1065, 1066, 1067, 1069, 57, 1070, 729, 730, 731, 732, 733, 734, 735, 1071, 1072, 1073, 1074, 737] (by decide +kernel)
theorem wsL_law0_r27_in : ∀ w ∈ wsL_law0_r27, w ∈ lw_tbl := zmemp [738, 739, 740, 741, 742, 743, 1075, 1076, 1077, 1078, 745, 746, 747, 748, 749, 750, 751, 369, 370, 371, 372, 1079, 1080, 1081] (by decide +kernel)
theorem wsL_law0_r28_in : ∀ w ∈ wsL_law0_r28, w ∈ lw_tbl := zmemp [1082, 1083, 1085, 58, 1086, 752, 753, 754, 755, 756, 757, 758, 99, 388, 1087, 1088, 1089, 1090, 759, 760, 761, 762, 763, 764] (by decide +kernel)
theorem wsL_law0_r29_in : ∀ w ∈ wsL_law0_r29, w ∈ lw_tbl := zmemp [765, 355, 357, 10, 358, 107, 109, 111, 113, 115, 117, 119, 121, 359, 342, 343, 344, 360, 346, 347, 348, 1091, 1092, 1093] (by decide +kernel)
theorem wsL_law0_r30_in : ∀ w ∈ wsL_law0_r30, w ∈ lw_tbl := zmemp [1094, 1095, 1097, 59, 1098, 1099, 1101, 60, 1102, 766, 767, 768, 769, 770, 771, 772, 1103, 1104, 1105, 1106, 773, 774, 775, 776] (by decide +kernel)
theorem wsL_law0_r31_in : ∀ w ∈ wsL_law0_r31, w ∈ lw_tbl := zmemp [777, 778, 779, 395, 1107, 1108, 1109, 1110, 780, 781, 782, 783, 784, 785, 786, 391, 393, 12, 394, 411, 413, 13, 414, 415] (by decide +kernel)
theorem wsL_law0_r32_in : ∀ w ∈ wsL_law0_r32, w ∈ lw_tbl := zmemp [416, 417, 418, 1111, 1112, 1113, 1114, 1115, 1117, 61, 1118, 787, 788, 789, 790, 791, 792, 793, 419, 421, 14, 422, 423, 425] (by decide +kernel)
theorem wsL_law0_r33_in : ∀ w ∈ wsL_law0_r33, w ∈ lw_tbl := zmemp [15, 426, 427, 428, 430, 16, 431, 432, 434, 17, 435, 436, 437, 81, 438, 439, 440, 441, 442, 444, 18, 445, 1119, 1120] (by decide +kernel)
theorem wsL_law0_r34_in : ∀ w ∈ wsL_law0_r34, w ∈ lw_tbl := zmemp [1121, 1122, 1123, 1125, 62, 1126, 794, 795, 796, 797, 798, 799, 800, 446, 447, 448, 449, 450, 451, 452, 453, 1127, 1128, 1129] (by decide +kernel)
theorem wsL_law0_r35_in : ∀ w ∈ wsL_law0_r35, w ∈ lw_tbl := zmemp [1130, 1131, 1133, 63, 1134, 801, 802, 803, 804, 805, 806, 807, 454, 455, 1135, 1136, 1137, 1138, 313, 314, 315, 316, 317, 318] (by decide +kernel)
theorem wsL_law0_r36_in : ∀ w ∈ wsL_law0_r36, w ∈ lw_tbl := zmemp [319, 320, 1139, 1140, 1141, 1142, 1143, 1145, 64, 1146, 333, 334, 335, 336, 337, 338, 339, 340, 341, 345, 1147, 1148, 1149, 1150] (by decide +kernel)
theorem wsL_law0_r37_in : ∀ w ∈ wsL_law0_r37, w ∈ lw_tbl := zmemp [1151, 1153, 65, 1154, 349, 350, 351, 352, 353, 354, 365, 367, 11, 368, 456, 457, 458, 459, 460, 1155, 1156, 1157, 1158, 1159] (by decide +kernel)
theorem wsL_law0_r38_in : ∀ w ∈ wsL_law0_r38, w ∈ lw_tbl := zmemp [827, 1160, 1162, 66, 1163, 1164, 1165, 1167, 67, 1168, 1169, 1170, 1171, 1172, 1173, 1174, 1175] (by decide +kernel)
theorem wsX20_int : ∀ w ∈ wsX20, w ∈ lw_tbl := by decide +kernel
theorem wsX30_int : ∀ w ∈ wsX30, w ∈ lw_tbl := by decide +kernel
theorem wsX00_int : ∀ w ∈ wsX00, w ∈ lw_tbl := by decide +kernel
theorem wsX10_int : ∀ w ∈ wsX10, w ∈ lw_tbl := by decide +kernel
theorem wsL_law_in0 : ∀ w ∈ wsL_law0, w ∈ lw_tbl := zap (zap (zap (zap (zap (zap wsL_law0_r1_in (zap wsL_law0_r2_in (zap wsL_law0_r3_in (zap wsL_law0_r4_in (zap wsL_law0_r5_in (zap wsL_law0_r6_in (zap wsL_law0_r7_in (zap wsL_law0_r8_in (zap wsL_law0_r9_in (zap wsL_law0_r10_in (zap wsL_law0_r11_in (zap wsL_law0_r12_in (zap wsL_law0_r13_in (zap wsL_law0_r14_in (zap wsL_law0_r15_in (zap wsL_law0_r16_in (zap wsL_law0_r17_in (zap wsL_law0_r18_in (zap wsL_law0_r19_in (zap wsL_law0_r20_in (zap wsL_law0_r21_in (zap wsL_law0_r22_in (zap wsL_law0_r23_in (zap wsL_law0_r24_in (zap wsL_law0_r25_in (zap wsL_law0_r26_in (zap wsL_law0_r27_in (zap wsL_law0_r28_in (zap wsL_law0_r29_in (zap wsL_law0_r30_in (zap wsL_law0_r31_in (zap wsL_law0_r32_in (zap wsL_law0_r33_in (zap wsL_law0_r34_in (zap wsL_law0_r35_in (zap wsL_law0_r36_in (zap wsL_law0_r37_in wsL_law0_r38_in))))))))))))))))))))))))))))))))))))) wsX20_int) wsX30_int) wsX00_int) wsX10_int) (fun w h => nomatch h)
theorem wsL_law_x0 : ∀ w ∈ (vx_atS RX2 212 "java/lang/IndexOutOfBoundsException" ["java/lang/RuntimeException", "java/lang/Exception"]).filter goodWord, w ∈ lw_tbl := by decide +kernel
theorem wsL_law_x1 : ∀ w ∈ (vx_atS RX2 130 "java/lang/IllegalArgumentException" ["java/lang/RuntimeException", "java/lang/Exception"]).filter goodWord, w ∈ lw_tbl := by decide +kernel
theorem wsL_law_x2 : ∀ w ∈ (vx_atS RX2 88 "java/lang/IllegalStateException" ["java/lang/RuntimeException", "java/lang/Exception"]).filter goodWord, w ∈ lw_tbl := by decide +kernel
theorem wsL_law_in : ∀ w ∈ wsL_law, w ∈ lw_tbl := fun w h => (List.mem_append.mp h).elim (fun h => (List.mem_append.mp h).elim (fun h => (List.mem_append.mp h).elim (fun h => wsL_law_in0 w h) (fun h => wsL_law_x0 w h)) (fun h => wsL_law_x1 w h)) (fun h => wsL_law_x2 w h)
theorem inlX0 : ∀ w ∈ wsX00, w ∈ wsL_law := fun _ h => List.mem_append_left _ (List.mem_append_left _ (List.mem_append_left _ (List.mem_append_left _ (List.mem_append_left _ (List.mem_append_right _ h)))))
theorem inX0 : ∀ w ∈ wsX00, w ∈ lw_tbl := fun w h => wsL_law_in w (inlX0 w h)
theorem inlX1 : ∀ w ∈ wsX10, w ∈ wsL_law := fun _ h => List.mem_append_left _ (List.mem_append_left _ (List.mem_append_left _ (List.mem_append_left _ (List.mem_append_right _ h))))
theorem inX1 : ∀ w ∈ wsX10, w ∈ lw_tbl := fun w h => wsL_law_in w (inlX1 w h)
theorem inlX2 : ∀ w ∈ wsX20, w ∈ wsL_law := fun _ h => List.mem_append_left _ (List.mem_append_left _ (List.mem_append_left _ (List.mem_append_left _ (List.mem_append_left _ (List.mem_append_left _ (List.mem_append_left _ (List.mem_append_right _ h)))))))
theorem inX2 : ∀ w ∈ wsX20, w ∈ lw_tbl := fun w h => wsL_law_in w (inlX2 w h)
theorem inlX3 : ∀ w ∈ wsX30, w ∈ wsL_law := fun _ h => List.mem_append_left _ (List.mem_append_left _ (List.mem_append_left _ (List.mem_append_left _ (List.mem_append_left _ (List.mem_append_left _ (List.mem_append_right _ h))))))
theorem inX3 : ∀ w ∈ wsX30, w ∈ lw_tbl := fun w h => wsL_law_in w (inlX3 w h)
theorem inJ6 : ∀ w ∈ wsJ60, w ∈ lw_tbl := by decide +kernel
theorem inJ9 : ∀ w ∈ wsJ90, w ∈ lw_tbl := by decide +kernel
theorem inJ0 : ∀ w ∈ wsJ00, w ∈ lw_tbl := by decide +kernel
theorem inJ10 : ∀ w ∈ wsJ100, w ∈ lw_tbl := by decide +kernel

end

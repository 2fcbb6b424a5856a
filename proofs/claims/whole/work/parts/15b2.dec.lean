/-! good words of the law's calls, 2 -/
set_option maxRecDepth 20000 in
theorem ggL_law_L_payOut : GoodIn wsL_law wsL_payOut := goodIn_ca (goodIn_ca (goodIn_r _ [165, 55, 56, 166, 167, 168, 2, 169, 16, 61, 62, 63, 64, 65, 66, 67, 68, 69, 70, 71, 72, 73, 74, 75, 76, 77, 78, 17, 79, 80, 81, 82, 83, 84, 85, 15, 86, 32, 33, 34, 35, 36, 37, 38, 39, 87, 88, 89, 90, 91, 92, 93, 94, 95, 96, 97, 98, 99, 100, 101, 102, 103, 104, 105, 170, 171, 172, 173, 174, 175, 176, 177, 178, 179, 180, 181, 182, 183, 184, 185, 186, 187, 188, 189, 190, 191, 192, 905, 906, 907, 908, 909, 910, 911, 912, 913, 928, 929, 930, 931, 932, 933, 934, 935, 936, 937, 938, 939, 940, 941, 942, 943] (by decide +kernel) (by decide +kernel)) (goodIn_sub (fun _ h => List.mem_append_left _ (List.mem_append_left _ (List.mem_append_right _ h))) (by decide +kernel))) (goodIn_sub (fun _ h => List.mem_append_left _ (List.mem_append_right _ h)) (by decide +kernel))
set_option maxRecDepth 20000 in
theorem gL_law_L_payOut : GoodIn wsL_law (va_wsS RL 101 yL_payOut wsL_payOut) := goodIn_app (goodIn_of _ (by decide +kernel)) ggL_law_L_payOut
set_option maxRecDepth 20000 in
theorem ggL_law_X3_payOut : GoodIn wsL_law wsX3_payOut := goodIn_r _ [196, 115, 116, 117, 5, 118, 119, 120, 121, 122, 123, 124, 125, 126, 127, 128, 129, 130, 131, 132, 133, 134, 135, 136, 137, 138, 139, 140, 141, 47, 197, 198, 199, 200, 201, 202, 203, 204, 147, 148, 149, 150, 205, 206, 207, 208, 209, 210, 211, 212, 213, 214, 215, 216, 217, 218, 219, 220, 151, 152, 153, 154, 155, 156, 157, 158, 914, 915, 916, 917, 918, 919, 920, 921, 922, 923, 924, 925, 926, 927] (by decide +kernel) (by decide +kernel)
set_option maxRecDepth 20000 in
theorem gL_law_X3_payOut : GoodIn wsL_law (wsV RL 103 RX3 yX3_payOut wsX3_payOut) := goodIn_app (goodIn_of _ (by decide +kernel)) ggL_law_X3_payOut
set_option maxRecDepth 20000 in
theorem ggL_law_L_pledge : GoodIn wsL_law wsL_pledge := goodIn_ca (goodIn_ca (goodIn_r _ [223, 55, 56, 224, 225, 226, 2, 227, 16, 228, 229, 230, 72, 73, 61, 62, 63, 64, 65, 66, 67, 68, 69, 70, 71, 74, 75, 76, 77, 78, 17, 79, 80, 81, 82, 83, 84, 85, 15, 86, 32, 33, 34, 35, 36, 37, 38, 39, 87, 88, 89, 90, 91, 92, 93, 94, 95, 96, 97, 98, 99, 100, 101, 102, 103, 104, 105, 231, 232, 233, 234, 174, 175, 176, 177, 178, 179, 180, 181, 182, 183, 184, 185, 186, 187, 188, 189, 190, 191, 192, 235, 236, 237, 905, 906, 907, 908, 909, 910, 911, 912, 913, 928, 929, 930, 931, 932, 933, 934, 935, 936, 937, 938, 939, 940, 941, 942, 943] (by decide +kernel) (by decide +kernel)) (goodIn_sub (fun _ h => List.mem_append_left _ (List.mem_append_right _ h)) (by decide +kernel))) (goodIn_sub (fun _ h => List.mem_append_left _ (List.mem_append_left _ (List.mem_append_right _ h))) (by decide +kernel))
set_option maxRecDepth 20000 in
theorem gL_law_L_pledge : GoodIn wsL_law (va_wsS RL 104 yL_pledge wsL_pledge) := goodIn_app (goodIn_of _ (by decide +kernel)) ggL_law_L_pledge
set_option maxRecDepth 20000 in
theorem ggL_law_X3_pledge : GoodIn wsL_law wsX3_pledge := goodIn_r _ [241, 242, 243, 244, 5, 245, 119, 120, 121, 122, 123, 124, 125, 126, 127, 128, 129, 130, 131, 132, 133, 134, 135, 136, 137, 138, 139, 140, 141, 47, 246, 247, 248, 249, 201, 202, 203, 204, 147, 148, 149, 150, 205, 206, 207, 208, 209, 210, 211, 212, 213, 214, 215, 216, 217, 218, 219, 220, 151, 152, 153, 154, 914, 915, 916, 917, 918, 919, 920, 921, 922, 923, 924, 925, 926, 927] (by decide +kernel) (by decide +kernel)
set_option maxRecDepth 20000 in
theorem gL_law_X3_pledge : GoodIn wsL_law (wsV RL 107 RX3 yX3_pledge wsX3_pledge) := goodIn_app (goodIn_of _ (by decide +kernel)) ggL_law_X3_pledge
set_option maxRecDepth 20000 in
theorem ggL_law_L_unpledge : GoodIn wsL_law wsL_unpledge := goodIn_ca (goodIn_ca (goodIn_r _ [252, 55, 56, 253, 254, 255, 2, 256, 16, 228, 229, 230, 72, 73, 61, 62, 63, 64, 65, 66, 67, 68, 69, 70, 71, 74, 75, 76, 77, 78, 17, 79, 80, 81, 82, 83, 84, 85, 15, 86, 32, 33, 34, 35, 36, 37, 38, 39, 87, 88, 89, 90, 91, 92, 93, 94, 95, 96, 97, 98, 99, 100, 101, 102, 103, 104, 105, 257, 258, 259, 260, 235, 236, 237, 261, 262, 263, 264, 181, 182, 183, 184, 185, 186, 187, 188, 189, 190, 191, 192, 905, 906, 907, 908, 909, 910, 911, 912, 913, 928, 929, 930, 931, 932, 933, 934, 935, 936, 937, 938, 939, 940, 941, 942, 943] (by decide +kernel) (by decide +kernel)) (goodIn_sub (fun _ h => List.mem_append_left _ (List.mem_append_right _ h)) (by decide +kernel))) (goodIn_sub (fun _ h => List.mem_append_left _ (List.mem_append_left _ (List.mem_append_right _ h))) (by decide +kernel))
set_option maxRecDepth 20000 in
theorem gL_law_L_unpledge : GoodIn wsL_law (va_wsS RL 108 yL_unpledge wsL_unpledge) := goodIn_app (goodIn_of _ (by decide +kernel)) ggL_law_L_unpledge
set_option maxRecDepth 20000 in
theorem ggL_law_X3_unpledge : GoodIn wsL_law wsX3_unpledge := goodIn_r _ [268, 242, 243, 244, 5, 245, 119, 120, 121, 122, 123, 124, 125, 126, 127, 128, 129, 130, 131, 132, 133, 134, 135, 136, 137, 138, 139, 140, 141, 47, 269, 270, 271, 272, 209, 210, 211, 212, 151, 152, 153, 154, 273, 274, 275, 276, 213, 214, 215, 216, 147, 148, 149, 150, 217, 218, 219, 220, 205, 206, 207, 208, 914, 915, 916, 917, 918, 919, 920, 921, 922, 923, 924, 925, 926, 927] (by decide +kernel) (by decide +kernel)
set_option maxRecDepth 20000 in
theorem gL_law_X3_unpledge : GoodIn wsL_law (wsV RL 110 RX3 yX3_unpledge wsX3_unpledge) := goodIn_app (goodIn_of _ (by decide +kernel)) ggL_law_X3_unpledge
set_option maxRecDepth 20000 in
theorem ggL_law_L_borrow : GoodIn wsL_law wsL_borrow := goodIn_ca (goodIn_ca (goodIn_r _ [279, 55, 56, 280, 281, 282, 2, 283, 16, 61, 62, 63, 64, 65, 66, 67, 68, 69, 70, 71, 72, 73, 74, 75, 76, 77, 78, 17, 79, 80, 81, 82, 83, 84, 85, 15, 86, 32, 33, 34, 35, 36, 37, 38, 39, 87, 88, 89, 90, 91, 92, 93, 94, 95, 96, 97, 98, 99, 100, 101, 102, 103, 104, 105, 284, 285, 286, 287, 288, 289, 290, 291, 292, 293, 294, 295, 296, 297, 298, 299, 261, 262, 263, 264, 181, 182, 183, 184, 185, 186, 187, 188, 189, 190, 191, 192, 300, 301, 302, 303, 304, 305, 306, 307, 905, 906, 907, 908, 909, 910, 911, 912, 913, 928, 929, 930, 931, 932, 933, 934, 935, 936, 937, 938, 939, 940, 941, 942, 943] (by decide +kernel) (by decide +kernel)) (goodIn_sub (fun _ h => List.mem_append_left _ (List.mem_append_left _ (List.mem_append_right _ h))) (by decide +kernel))) (goodIn_sub (fun _ h => List.mem_append_left _ (List.mem_append_right _ h)) (by decide +kernel))
set_option maxRecDepth 20000 in
theorem gL_law_L_borrow : GoodIn wsL_law (va_wsS RL 111 yL_borrow wsL_borrow) := goodIn_app (goodIn_of _ (by decide +kernel)) ggL_law_L_borrow
set_option maxRecDepth 20000 in
theorem ggL_law_X3_borrow : GoodIn wsL_law wsX3_borrow := goodIn_r _ [311, 125, 126, 5, 127, 122, 123, 124, 119, 120, 121, 128, 129, 130, 131, 132, 133, 134, 135, 136, 137, 138, 139, 140, 141, 47, 312, 313, 314, 315, 316, 317, 318, 319, 147, 148, 149, 150, 273, 274, 275, 276, 213, 214, 215, 216, 217, 218, 219, 220, 209, 210, 211, 212, 205, 206, 207, 208, 320, 321, 322, 151, 152, 153, 154, 155, 156, 157, 158, 914, 915, 916, 917, 918, 919, 920, 921, 922, 923, 924, 925, 926, 927] (by decide +kernel) (by decide +kernel)
set_option maxRecDepth 20000 in
theorem gL_law_X3_borrow : GoodIn wsL_law (wsV RL 113 RX3 yX3_borrow wsX3_borrow) := goodIn_app (goodIn_of _ (by decide +kernel)) ggL_law_X3_borrow
set_option maxRecDepth 20000 in
theorem ggL_law_L_repay : GoodIn wsL_law wsL_repay := goodIn_ca (goodIn_ca (goodIn_r _ [325, 55, 56, 326, 327, 328, 2, 329, 16, 61, 62, 63, 64, 65, 66, 67, 68, 69, 70, 71, 72, 73, 74, 75, 76, 77, 78, 17, 79, 80, 81, 82, 83, 84, 85, 15, 86, 32, 33, 34, 35, 36, 37, 38, 39, 87, 88, 89, 90, 91, 92, 93, 94, 95, 96, 97, 98, 99, 100, 101, 102, 103, 104, 105, 330, 331, 332, 333, 905, 906, 907, 908, 909, 910, 911, 912, 913, 928, 929, 930, 931, 932, 933, 934, 935, 936, 937, 938, 939, 940, 941, 942, 943] (by decide +kernel) (by decide +kernel)) (goodIn_sub (fun _ h => List.mem_append_left _ (List.mem_append_left _ (List.mem_append_right _ h))) (by decide +kernel))) (goodIn_sub (fun _ h => List.mem_append_left _ (List.mem_append_right _ h)) (by decide +kernel))
set_option maxRecDepth 20000 in
theorem gL_law_L_repay : GoodIn wsL_law (va_wsS RL 114 yL_repay wsL_repay) := goodIn_app (goodIn_of _ (by decide +kernel)) ggL_law_L_repay
set_option maxRecDepth 20000 in
theorem ggL_law_X3_repay : GoodIn wsL_law wsX3_repay := goodIn_r _ [337, 115, 116, 117, 5, 118, 119, 120, 121, 122, 123, 124, 125, 126, 127, 128, 129, 130, 131, 132, 133, 134, 135, 136, 137, 138, 139, 140, 141, 47, 338, 339, 340, 341, 147, 148, 149, 150, 151, 152, 153, 154, 155, 156, 157, 158, 914, 915, 916, 917, 918, 919, 920, 921, 922, 923, 924, 925, 926, 927] (by decide +kernel) (by decide +kernel)
set_option maxRecDepth 20000 in
theorem gL_law_X3_repay : GoodIn wsL_law (wsV RL 116 RX3 yX3_repay wsX3_repay) := goodIn_app (goodIn_of _ (by decide +kernel)) ggL_law_X3_repay
set_option maxRecDepth 20000 in
theorem ggL_law_L_week : GoodIn wsL_law wsL_week := goodIn_ca (goodIn_r _ [344, 345, 346, 347, 348, 2, 349, 350, 351, 16, 352, 353, 354, 15, 355, 91, 74, 75, 76, 77, 78, 17, 79, 80, 81, 82, 83, 84, 85, 86, 32, 33, 34, 35, 36, 37, 38, 39, 87, 88, 89, 90, 92, 93, 94, 95, 96, 97, 98, 99, 100, 101, 102, 103, 104, 105, 356, 357, 358, 359, 292, 293, 294, 295, 360, 361, 362, 363, 364, 365, 366, 367, 181, 182, 183, 184, 185, 186, 187, 188, 235, 236, 237, 905, 906, 907, 908, 909, 910, 911, 912, 913, 928, 929, 930, 931, 932, 933, 934, 935, 936, 937, 938, 939, 940, 941, 942, 943] (by decide +kernel) (by decide +kernel)) (goodIn_sub (fun _ h => List.mem_append_right _ h) (by decide +kernel))
set_option maxRecDepth 20000 in
theorem gL_law_L_week : GoodIn wsL_law (va_wsS RL 117 yL_week wsL_week) := goodIn_app (goodIn_of _ (by decide +kernel)) ggL_law_L_week
set_option maxRecDepth 20000 in
theorem ggL_law_X3_week : GoodIn wsL_law wsX3_week := goodIn_r _ [371, 47, 128, 129, 130, 5, 131, 132, 133, 134, 135, 136, 137, 138, 139, 140, 141, 372, 373, 374, 375, 147, 148, 149, 150, 155, 156, 157, 158, 376, 377, 378, 379, 213, 214, 215, 216, 217, 218, 219, 220, 209, 210, 211, 212, 380, 381, 382, 383, 914, 915, 916, 917, 918, 919, 920, 921, 922, 923, 924, 925, 926, 927] (by decide +kernel) (by decide +kernel)
set_option maxRecDepth 20000 in
theorem gL_law_X3_week : GoodIn wsL_law (wsV RL 120 RX3 yX3_week wsX3_week) := goodIn_app (goodIn_of _ (by decide +kernel)) ggL_law_X3_week
set_option maxRecDepth 20000 in
theorem ggL_law_L_pass : GoodIn wsL_law wsL_pass := goodIn_ca (goodIn_ca (goodIn_r _ [386, 56, 345, 387, 388, 389, 2, 390, 350, 351, 16, 69, 70, 71, 72, 73, 391, 392, 393, 15, 394, 92, 33, 32, 395, 74, 75, 76, 77, 78, 17, 79, 80, 81, 82, 83, 84, 85, 86, 34, 35, 36, 37, 38, 39, 87, 88, 89, 90, 91, 93, 94, 95, 96, 97, 98, 99, 100, 101, 102, 103, 104, 105, 396, 397, 398, 399, 905, 906, 907, 908, 909, 910, 911, 912, 913, 928, 929, 930, 931, 932, 933, 934, 935, 936, 937, 938, 939, 940, 941, 942, 943] (by decide +kernel) (by decide +kernel)) (goodIn_sub (fun _ h => List.mem_append_right _ h) (by decide +kernel))) (goodIn_sub (fun _ h => List.mem_append_left _ (List.mem_append_right _ h)) (by decide +kernel))
set_option maxRecDepth 20000 in
theorem gL_law_L_pass : GoodIn wsL_law (va_wsS RL 121 yL_pass wsL_pass) := goodIn_app (goodIn_of _ (by decide +kernel)) ggL_law_L_pass
set_option maxRecDepth 20000 in
theorem ggL_law_X3_pass : GoodIn wsL_law wsX3_pass := goodIn_r _ [403, 47, 404, 147, 148, 149, 5, 150, 122, 123, 124, 128, 129, 130, 131, 132, 133, 134, 135, 136, 137, 138, 139, 140, 141, 155, 156, 157, 158, 914, 915, 916, 917, 918, 919, 920, 921, 922, 923, 924, 925, 926, 927] (by decide +kernel) (by decide +kernel)
set_option maxRecDepth 20000 in
theorem gL_law_X3_pass : GoodIn wsL_law (wsV RL 124 RX3 yX3_pass wsX3_pass) := goodIn_app (goodIn_of _ (by decide +kernel)) ggL_law_X3_pass
set_option maxRecDepth 20000 in
theorem ggL_law_X2_dividend : GoodIn wsL_law wsX2_dividend := goodIn_r _ [408, 16, 74, 75, 76, 2, 77, 78, 17, 79, 80, 81, 82, 83, 84, 85, 15, 86, 32, 33, 34, 35, 36, 37, 38, 39, 87, 88, 89, 90, 91, 92, 93, 94, 95, 96, 97, 98, 99, 100, 101, 102, 103, 104, 105, 409, 410, 411, 412, 413, 414, 415, 416, 417, 418, 419, 420, 905, 906, 907, 908, 909, 910, 911, 912, 913, 928, 929, 930, 931, 932, 933, 934, 935, 936, 937, 938, 939, 940, 941, 942, 943] (by decide +kernel) (by decide +kernel)
set_option maxRecDepth 20000 in
theorem gL_law_X2_dividend : GoodIn wsL_law (wsV RL 125 RX2 yX2_dividend wsX2_dividend) := goodIn_app (goodIn_of _ (by decide +kernel)) ggL_law_X2_dividend
set_option maxRecDepth 20000 in
theorem ggL_law_X3_dividend : GoodIn wsL_law wsX3_dividend := goodIn_r _ [424, 132, 47, 133, 134, 135, 5, 136, 137, 138, 139, 140, 141, 425, 426, 427, 428, 147, 148, 149, 150, 151, 152, 153, 154, 429, 430, 431, 432, 155, 156, 157, 158, 914, 915, 916, 917, 918, 919, 920, 921, 922, 923, 924, 925, 926, 927] (by decide +kernel) (by decide +kernel)
set_option maxRecDepth 20000 in
theorem gL_law_X3_dividend : GoodIn wsL_law (wsV RL 128 RX3 yX3_dividend wsX3_dividend) := goodIn_app (goodIn_of _ (by decide +kernel)) ggL_law_X3_dividend
set_option maxRecDepth 20000 in
theorem ggL_law_L_set : GoodIn wsL_law wsL_set := goodIn_ca (goodIn_ca (goodIn_r _ [435, 55, 56, 436, 437, 438, 2, 439, 16, 440, 441, 442, 443, 64, 65, 69, 70, 71, 72, 73, 74, 75, 76, 77, 78, 17, 79, 80, 81, 82, 83, 84, 85, 15, 86, 32, 33, 34, 35, 36, 37, 38, 39, 87, 88, 89, 90, 91, 92, 93, 94, 95, 96, 97, 98, 99, 100, 101, 102, 103, 104, 105, 905, 906, 907, 908, 909, 910, 911, 912, 913, 928, 929, 930, 931, 932, 933, 934, 935, 936, 937, 938, 939, 940, 941, 942, 943] (by decide +kernel) (by decide +kernel)) (goodIn_sub (fun _ h => List.mem_append_left _ (List.mem_append_left _ (List.mem_append_right _ h))) (by decide +kernel))) (goodIn_sub (fun _ h => List.mem_append_left _ (List.mem_append_right _ h)) (by decide +kernel))
set_option maxRecDepth 20000 in
theorem gL_law_L_set : GoodIn wsL_law (va_wsS RL 129 yL_set wsL_set) := goodIn_app (goodIn_of _ (by decide +kernel)) ggL_law_L_set
set_option maxRecDepth 20000 in
theorem ggL_law_X3_set : GoodIn wsL_law wsX3_set := goodIn_r _ [447, 47, 122, 123, 5, 124, 128, 129, 130, 131, 132, 133, 134, 135, 136, 137, 138, 139, 140, 141, 914, 915, 916, 917, 918, 919, 920, 921, 922, 923, 924, 925, 926, 927] (by decide +kernel) (by decide +kernel)
set_option maxRecDepth 20000 in
theorem gL_law_X3_set : GoodIn wsL_law (wsV RL 131 RX3 yX3_set wsX3_set) := goodIn_app (goodIn_of _ (by decide +kernel)) ggL_law_X3_set
set_option maxRecDepth 20000 in
theorem ggL_law_L_append : GoodIn wsL_law wsL_append := goodIn_ca (goodIn_ca (goodIn_r _ [450, 56, 345, 451, 452, 453, 2, 454, 350, 351, 455, 22, 69, 70, 71, 72, 73, 905, 906, 907, 908, 909, 910, 911, 912, 913] (by decide +kernel) (by decide +kernel)) (goodIn_sub (fun _ h => List.mem_append_right _ h) (by decide +kernel))) (goodIn_sub (fun _ h => List.mem_append_left _ (List.mem_append_right _ h)) (by decide +kernel))
set_option maxRecDepth 20000 in
theorem gL_law_L_append : GoodIn wsL_law (va_wsS RL 132 yL_append wsL_append) := goodIn_app (goodIn_of _ (by decide +kernel)) ggL_law_L_append
set_option maxRecDepth 20000 in
theorem ggL_law_X3_append : GoodIn wsL_law wsX3_append := goodIn_r _ [459, 460, 49, 122, 123, 5, 124, 128, 129, 130, 131, 132, 914, 915, 916, 917, 918, 919, 920, 921, 922, 923, 924, 925, 926, 927] (by decide +kernel) (by decide +kernel)
set_option maxRecDepth 20000 in
theorem gL_law_X3_append : GoodIn wsL_law (wsV RL 134 RX3 yX3_append wsX3_append) := goodIn_app (goodIn_of _ (by decide +kernel)) ggL_law_X3_append
set_option maxRecDepth 20000 in
theorem ggL_law_X2_clearBuffer : GoodIn wsL_law wsX2_clearBuffer := goodIn_r _ [464, 455, 905, 906, 907, 908, 909, 910, 911, 912, 913] (by decide +kernel) (by decide +kernel)
set_option maxRecDepth 20000 in
theorem gL_law_X2_clearBuffer : GoodIn wsL_law (wsV RL 135 RX2 yX2_clearBuffer wsX2_clearBuffer) := goodIn_app (goodIn_of _ (by decide +kernel)) ggL_law_X2_clearBuffer
set_option maxRecDepth 20000 in
theorem ggL_law_X3_clearBuffer : GoodIn wsL_law wsX3_clearBuffer := goodIn_r _ [468, 132, 460, 914, 915, 916, 917, 918, 919, 920, 921, 922, 923, 924, 925, 926, 927] (by decide +kernel) (by decide +kernel)
set_option maxRecDepth 20000 in
theorem gL_law_X3_clearBuffer : GoodIn wsL_law (wsV RL 138 RX3 yX3_clearBuffer wsX3_clearBuffer) := goodIn_app (goodIn_of _ (by decide +kernel)) ggL_law_X3_clearBuffer
set_option maxRecDepth 20000 in
theorem ggL_law_X2_firstError : GoodIn wsL_law wsX2_firstError := goodIn_r _ [472, 473, 474, 475, 2, 476, 26, 455, 22, 477, 478, 479, 25, 480, 481, 482, 483, 484, 485, 486, 487, 488, 489, 490, 491, 492, 493, 494, 495, 496, 497, 498, 499, 500, 501, 502, 503, 504, 505, 506, 507, 508, 509, 510, 511, 512, 513, 514, 515, 516, 517, 518, 519, 520, 521, 522, 523, 524, 525, 526, 527, 528, 529, 905, 906, 907, 908, 909, 910, 911, 912, 913, 944, 945, 946, 947, 948, 949] (by decide +kernel) (by decide +kernel)
set_option maxRecDepth 20000 in
theorem gL_law_X2_firstError : GoodIn wsL_law (wsV RL 139 RX2 yX2_firstError wsX2_firstError) := goodIn_app (goodIn_of _ (by decide +kernel)) ggL_law_X2_firstError
set_option maxRecDepth 20000 in
theorem ggL_law_X3_firstError : GoodIn wsL_law wsX3_firstError := goodIn_r _ [533, 132, 534, 535, 536, 537, 5, 538, 460, 539, 540, 541, 542, 543, 544, 545, 546, 547, 548, 549, 550, 551, 49, 552, 553, 554, 555, 556, 557, 558, 559, 122, 123, 124, 560, 561, 562, 563, 914, 915, 916, 917, 918, 919, 920, 921, 922, 923, 924, 925, 926, 927] (by decide +kernel) (by decide +kernel)
set_option maxRecDepth 20000 in
theorem gL_law_X3_firstError : GoodIn wsL_law (wsV RL 142 RX3 yX3_firstError wsX3_firstError) := goodIn_app (goodIn_of _ (by decide +kernel)) ggL_law_X3_firstError
set_option maxRecDepth 20000 in
theorem ggL_law_L_run : GoodIn wsL_law wsL_run := goodIn_ca (goodIn_r _ [566, 56, 567, 568, 569, 2, 570, 72, 73, 455, 26, 473, 474, 475, 476, 22, 477, 478, 479, 25, 480, 481, 482, 483, 484, 485, 486, 487, 488, 489, 490, 491, 492, 493, 494, 495, 496, 497, 498, 499, 500, 501, 502, 503, 504, 505, 506, 507, 508, 509, 510, 511, 512, 513, 514, 515, 516, 517, 518, 519, 520, 521, 522, 523, 524, 525, 526, 527, 528, 529, 571, 74, 75, 76, 77, 78, 17, 16, 79, 80, 81, 82, 83, 84, 85, 15, 86, 32, 33, 34, 35, 36, 37, 38, 39, 87, 88, 89, 90, 91, 92, 93, 94, 95, 96, 97, 98, 99, 100, 101, 102, 103, 104, 105, 572, 573, 574, 575, 576, 577, 578, 579, 580, 581, 582, 583, 584, 106, 107, 108, 109, 110, 170, 171, 172, 173, 174, 175, 176, 177, 178, 179, 180, 181, 182, 183, 184, 185, 186, 187, 188, 189, 190, 191, 192, 231, 232, 233, 234, 235, 236, 237, 284, 285, 286, 287, 288, 289, 290, 291, 292, 293, 294, 295, 296, 297, 298, 299, 261, 262, 263, 264, 300, 301, 302, 303, 304, 305, 306, 307, 330, 331, 332, 333, 352, 353, 354, 355, 356, 357, 358, 359, 360, 361, 362, 363, 364, 365, 366, 367, 905, 906, 907, 908, 909, 910, 911, 912, 913, 944, 945, 946, 947, 948, 949, 928, 929, 930, 931, 932, 933, 934, 935, 936, 937, 938, 939, 940, 941, 942, 943] (by decide +kernel) (by decide +kernel)) (goodIn_sub (fun _ h => List.mem_append_left _ (List.mem_append_right _ h)) (by decide +kernel))
set_option maxRecDepth 20000 in
theorem gL_law_L_run : GoodIn wsL_law (va_wsS RL 143 yL_run wsL_run) := goodIn_app (goodIn_of _ (by decide +kernel)) ggL_law_L_run
set_option maxRecDepth 20000 in
theorem ggL_law_X3_run : GoodIn wsL_law wsX3_run := goodIn_r _ [588, 534, 47, 543, 460, 535, 536, 537, 5, 538, 539, 540, 541, 542, 544, 545, 546, 547, 548, 549, 550, 551, 49, 552, 553, 554, 555, 556, 557, 558, 559, 122, 123, 124, 560, 561, 562, 563, 128, 129, 130, 131, 132, 133, 134, 135, 136, 137, 138, 139, 140, 141, 589, 590, 591, 592, 142, 143, 144, 145, 146, 147, 148, 149, 150, 151, 152, 153, 154, 155, 156, 157, 158, 197, 198, 199, 200, 201, 202, 203, 204, 205, 206, 207, 208, 209, 210, 211, 212, 213, 214, 215, 216, 217, 218, 219, 220, 246, 247, 248, 249, 312, 313, 314, 315, 316, 317, 318, 319, 273, 274, 275, 276, 320, 321, 322, 338, 339, 340, 341, 372, 373, 374, 375, 376, 377, 378, 379, 380, 381, 382, 383, 914, 915, 916, 917, 918, 919, 920, 921, 922, 923, 924, 925, 926, 927] (by decide +kernel) (by decide +kernel)
set_option maxRecDepth 20000 in
theorem gL_law_X3_run : GoodIn wsL_law (wsV RL 145 RX3 yX3_run wsX3_run) := goodIn_app (goodIn_of _ (by decide +kernel)) ggL_law_X3_run
set_option maxRecDepth 20000 in
theorem ggL_law_L_keep : GoodIn wsL_law wsL_keep := goodIn_ca (goodIn_r _ [595, 56, 596, 597, 598, 2, 599, 18, 16, 20, 69, 70, 71, 72, 73, 83, 84, 85, 15, 86, 32, 33, 34, 35, 36, 37, 38, 39, 87, 88, 89, 90, 91, 92, 93, 94, 95, 96, 97, 98, 99, 100, 101, 102, 103, 104, 105, 600, 601, 602, 603, 292, 293, 294, 295, 905, 906, 907, 908, 909, 910, 911, 912, 913, 928, 929, 930, 931, 932, 933, 934, 935, 936, 937, 938, 939, 940, 941, 942, 943] (by decide +kernel) (by decide +kernel)) (goodIn_sub (fun _ h => List.mem_append_left _ (List.mem_append_right _ h)) (by decide +kernel))
set_option maxRecDepth 20000 in
theorem gL_law_L_keep : GoodIn wsL_law (va_wsS RL 146 yL_keep wsL_keep) := goodIn_app (goodIn_of _ (by decide +kernel)) ggL_law_L_keep
set_option maxRecDepth 20000 in
theorem ggL_law_X3_keep : GoodIn wsL_law wsX3_keep := goodIn_r _ [607, 48, 122, 123, 5, 124, 128, 129, 130, 131, 132, 138, 139, 140, 141, 47, 608, 609, 610, 611, 147, 148, 149, 150, 914, 915, 916, 917, 918, 919, 920, 921, 922, 923, 924, 925, 926, 927] (by decide +kernel) (by decide +kernel)
set_option maxRecDepth 20000 in
theorem gL_law_X3_keep : GoodIn wsL_law (wsV RL 148 RX3 yX3_keep wsX3_keep) := goodIn_app (goodIn_of _ (by decide +kernel)) ggL_law_X3_keep
set_option maxRecDepth 20000 in
theorem ggL_law_L_goBack : GoodIn wsL_law wsL_goBack := goodIn_ca (goodIn_ca (goodIn_r _ [614, 56, 345, 615, 616, 617, 2, 618, 350, 351, 20, 16, 18, 69, 70, 71, 72, 73, 74, 75, 76, 77, 78, 17, 79, 80, 81, 82, 83, 84, 85, 15, 86, 32, 33, 34, 35, 36, 37, 38, 39, 87, 88, 89, 90, 91, 92, 93, 94, 95, 96, 97, 98, 99, 100, 101, 102, 103, 104, 105, 600, 601, 602, 603, 292, 293, 294, 295, 905, 906, 907, 908, 909, 910, 911, 912, 913, 928, 929, 930, 931, 932, 933, 934, 935, 936, 937, 938, 939, 940, 941, 942, 943] (by decide +kernel) (by decide +kernel)) (goodIn_sub (fun _ h => List.mem_append_right _ h) (by decide +kernel))) (goodIn_sub (fun _ h => List.mem_append_left _ (List.mem_append_right _ h)) (by decide +kernel))
set_option maxRecDepth 20000 in
theorem gL_law_L_goBack : GoodIn wsL_law (va_wsS RL 149 yL_goBack wsL_goBack) := goodIn_app (goodIn_of _ (by decide +kernel)) ggL_law_L_goBack
set_option maxRecDepth 20000 in
theorem ggL_law_X3_goBack : GoodIn wsL_law wsX3_goBack := goodIn_r _ [622, 48, 122, 123, 5, 124, 128, 129, 130, 131, 132, 133, 134, 135, 136, 137, 138, 139, 140, 141, 47, 608, 609, 610, 611, 147, 148, 149, 150, 914, 915, 916, 917, 918, 919, 920, 921, 922, 923, 924, 925, 926, 927] (by decide +kernel) (by decide +kernel)
set_option maxRecDepth 20000 in
theorem gL_law_X3_goBack : GoodIn wsL_law (wsV RL 151 RX3 yX3_goBack wsX3_goBack) := goodIn_app (goodIn_of _ (by decide +kernel)) ggL_law_X3_goBack
set_option maxRecDepth 20000 in
theorem ggL_law_L_undo : GoodIn wsL_law wsL_undo := goodIn_ca (goodIn_r _ [625, 345, 626, 627, 628, 2, 629, 350, 351, 78, 16, 17, 83, 84, 85, 15, 86, 32, 33, 34, 35, 36, 37, 38, 39, 87, 88, 89, 90, 91, 92, 93, 94, 95, 96, 97, 98, 99, 100, 101, 102, 103, 104, 105, 905, 906, 907, 908, 909, 910, 911, 912, 913, 928, 929, 930, 931, 932, 933, 934, 935, 936, 937, 938, 939, 940, 941, 942, 943] (by decide +kernel) (by decide +kernel)) (goodIn_sub (fun _ h => List.mem_append_right _ h) (by decide +kernel))
set_option maxRecDepth 20000 in
theorem gL_law_L_undo : GoodIn wsL_law (va_wsS RL 152 yL_undo wsL_undo) := goodIn_app (goodIn_of _ (by decide +kernel)) ggL_law_L_undo
set_option maxRecDepth 20000 in
theorem ggL_law_X3_undo : GoodIn wsL_law wsX3_undo := goodIn_r _ [633, 137, 128, 129, 130, 5, 131, 132, 138, 139, 140, 141, 47, 914, 915, 916, 917, 918, 919, 920, 921, 922, 923, 924, 925, 926, 927] (by decide +kernel) (by decide +kernel)
set_option maxRecDepth 20000 in
theorem gL_law_X3_undo : GoodIn wsL_law (wsV RL 154 RX3 yX3_undo wsX3_undo) := goodIn_app (goodIn_of _ (by decide +kernel)) ggL_law_X3_undo
set_option maxRecDepth 20000 in
theorem ggL_law_L_memberOf : GoodIn wsL_law wsL_memberOf := goodIn_ca (goodIn_ca (goodIn_r _ [636, 55, 56, 637, 638, 639, 2, 640, 16, 61, 62, 63, 64, 65, 69, 70, 71, 72, 73, 641, 642, 643, 15, 644, 32, 33, 35, 36, 37, 38, 185, 186, 187, 188, 34, 189, 190, 191, 192, 261, 262, 263, 264, 181, 182, 183, 184, 174, 175, 176, 177, 178, 179, 100, 180, 292, 293, 294, 295, 905, 906, 907, 908, 909, 910, 911, 912, 913, 928, 929, 930, 931, 932, 933, 934, 935, 936, 937, 938, 939, 940, 941, 942, 943] (by decide +kernel) (by decide +kernel)) (goodIn_sub (fun _ h => List.mem_append_left _ (List.mem_append_left _ (List.mem_append_right _ h))) (by decide +kernel))) (goodIn_sub (fun _ h => List.mem_append_left _ (List.mem_append_right _ h)) (by decide +kernel))
set_option maxRecDepth 20000 in
theorem gL_law_L_memberOf : GoodIn wsL_law (va_wsS RL 155 yL_memberOf wsL_memberOf) := goodIn_app (goodIn_of _ (by decide +kernel)) ggL_law_L_memberOf
set_option maxRecDepth 20000 in
theorem ggL_law_X3_memberOf : GoodIn wsL_law wsX3_memberOf := goodIn_r _ [648, 119, 120, 5, 121, 122, 123, 124, 128, 129, 130, 131, 132, 649, 650, 651, 652, 147, 148, 149, 150, 47, 217, 218, 219, 220, 209, 210, 211, 212, 205, 206, 207, 208, 273, 274, 275, 276, 213, 214, 215, 216, 201, 202, 203, 204, 914, 915, 916, 917, 918, 919, 920, 921, 922, 923, 924, 925, 926, 927] (by decide +kernel) (by decide +kernel)
set_option maxRecDepth 20000 in
theorem gL_law_X3_memberOf : GoodIn wsL_law (wsV RL 157 RX3 yX3_memberOf wsX3_memberOf) := goodIn_app (goodIn_of _ (by decide +kernel)) ggL_law_X3_memberOf
set_option maxRecDepth 20000 in
theorem ggL_law_L_pledged : GoodIn wsL_law wsL_pledged := goodIn_ca (goodIn_r _ [655, 55, 656, 657, 658, 2, 659, 16, 660, 61, 62, 63, 64, 65, 661, 236, 15, 237, 905, 906, 907, 908, 909, 910, 911, 912, 913, 928, 929, 930, 931, 932, 933, 934, 935, 936, 937, 938, 939, 940, 941, 942, 943] (by decide +kernel) (by decide +kernel)) (goodIn_sub (fun _ h => List.mem_append_left _ (List.mem_append_left _ (List.mem_append_right _ h))) (by decide +kernel))
set_option maxRecDepth 20000 in
theorem gL_law_L_pledged : GoodIn wsL_law (va_wsS RL 158 yL_pledged wsL_pledged) := goodIn_app (goodIn_of _ (by decide +kernel)) ggL_law_L_pledged
set_option maxRecDepth 20000 in
theorem ggL_law_X3_pledged : GoodIn wsL_law wsX3_pledged := goodIn_r _ [665, 119, 120, 5, 121, 122, 123, 124, 128, 129, 130, 131, 132, 209, 210, 211, 212, 47, 914, 915, 916, 917, 918, 919, 920, 921, 922, 923, 924, 925, 926, 927] (by decide +kernel) (by decide +kernel)
set_option maxRecDepth 20000 in
theorem gL_law_X3_pledged : GoodIn wsL_law (wsV RL 160 RX3 yX3_pledged wsX3_pledged) := goodIn_app (goodIn_of _ (by decide +kernel)) ggL_law_X3_pledged
set_option maxRecDepth 20000 in
theorem ggL_law_L_count : GoodIn wsL_law wsL_count := goodIn_ca (goodIn_r _ [668, 56, 669, 670, 671, 2, 672, 69, 70, 71, 72, 73, 673, 674, 675, 676, 16, 677, 678, 679, 680, 681, 682, 683, 684, 78, 685, 686, 687, 15, 688, 32, 689, 690, 691, 692, 35, 600, 601, 602, 603, 292, 293, 294, 295, 905, 906, 907, 908, 909, 910, 911, 912, 913, 928, 929, 930, 931, 932, 933, 934, 935, 936, 937, 938, 939, 940, 941, 942, 943] (by decide +kernel) (by decide +kernel)) (goodIn_sub (fun _ h => List.mem_append_left _ (List.mem_append_right _ h)) (by decide +kernel))
set_option maxRecDepth 20000 in
theorem gL_law_L_count : GoodIn wsL_law (va_wsS RL 161 yL_count wsL_count) := goodIn_app (goodIn_of _ (by decide +kernel)) ggL_law_L_count
set_option maxRecDepth 20000 in
theorem ggL_law_X3_count : GoodIn wsL_law wsX3_count := goodIn_r _ [696, 122, 123, 5, 124, 128, 129, 130, 131, 132, 697, 698, 699, 700, 47, 137, 701, 702, 703, 704, 147, 148, 149, 150, 608, 609, 610, 611, 914, 915, 916, 917, 918, 919, 920, 921, 922, 923, 924, 925, 926, 927] (by decide +kernel) (by decide +kernel)
set_option maxRecDepth 20000 in
theorem gL_law_X3_count : GoodIn wsL_law (wsV RL 163 RX3 yX3_count wsX3_count) := goodIn_app (goodIn_of _ (by decide +kernel)) ggL_law_X3_count
set_option maxRecDepth 20000 in
theorem ggL_law_L_setting : GoodIn wsL_law wsL_setting := goodIn_ca (goodIn_r _ [707, 55, 708, 709, 710, 2, 711, 16, 440, 441, 442, 443, 64, 65, 905, 906, 907, 908, 909, 910, 911, 912, 913, 928, 929, 930, 931, 932, 933, 934, 935, 936, 937, 938, 939, 940, 941, 942, 943] (by decide +kernel) (by decide +kernel)) (goodIn_sub (fun _ h => List.mem_append_left _ (List.mem_append_left _ (List.mem_append_right _ h))) (by decide +kernel))
set_option maxRecDepth 20000 in
theorem gL_law_L_setting : GoodIn wsL_law (va_wsS RL 164 yL_setting wsL_setting) := goodIn_app (goodIn_of _ (by decide +kernel)) ggL_law_L_setting
set_option maxRecDepth 20000 in
theorem ggL_law_X3_setting : GoodIn wsL_law wsX3_setting := goodIn_r _ [715, 47, 122, 123, 5, 124, 128, 129, 130, 131, 132, 914, 915, 916, 917, 918, 919, 920, 921, 922, 923, 924, 925, 926, 927] (by decide +kernel) (by decide +kernel)
set_option maxRecDepth 20000 in
theorem gL_law_X3_setting : GoodIn wsL_law (wsV RL 166 RX3 yX3_setting wsX3_setting) := goodIn_app (goodIn_of _ (by decide +kernel)) ggL_law_X3_setting
set_option maxRecDepth 20000 in
theorem ggL_law_L_whyNot : GoodIn wsL_law wsL_whyNot := goodIn_ca (goodIn_ca (goodIn_r _ [718, 55, 56, 719, 720, 721, 2, 722, 16, 61, 62, 63, 64, 65, 66, 67, 68, 69, 70, 71, 72, 73, 723, 289, 290, 15, 291, 292, 293, 294, 295, 35, 296, 297, 298, 299, 32, 261, 262, 263, 264, 181, 182, 183, 184, 185, 186, 187, 188, 34, 189, 190, 191, 192, 300, 301, 302, 303, 87, 304, 305, 306, 307, 39, 905, 906, 907, 908, 909, 910, 911, 912, 913, 928, 929, 930, 931, 932, 933, 934, 935, 936, 937, 938, 939, 940, 941, 942, 943] (by decide +kernel) (by decide +kernel)) (goodIn_sub (fun _ h => List.mem_append_left _ (List.mem_append_left _ (List.mem_append_right _ h))) (by decide +kernel))) (goodIn_sub (fun _ h => List.mem_append_left _ (List.mem_append_right _ h)) (by decide +kernel))
set_option maxRecDepth 20000 in
theorem gL_law_L_whyNot : GoodIn wsL_law (va_wsS RL 167 yL_whyNot wsL_whyNot) := goodIn_app (goodIn_of _ (by decide +kernel)) ggL_law_L_whyNot
set_option maxRecDepth 20000 in
theorem ggL_law_X3_whyNot : GoodIn wsL_law wsX3_whyNot := goodIn_r _ [727, 115, 116, 117, 5, 118, 119, 120, 121, 122, 123, 124, 125, 126, 127, 128, 129, 130, 131, 132, 316, 317, 318, 319, 47, 147, 148, 149, 150, 273, 274, 275, 276, 213, 214, 215, 216, 217, 218, 219, 220, 209, 210, 211, 212, 205, 206, 207, 208, 320, 321, 322, 914, 915, 916, 917, 918, 919, 920, 921, 922, 923, 924, 925, 926, 927] (by decide +kernel) (by decide +kernel)
set_option maxRecDepth 20000 in
theorem gL_law_X3_whyNot : GoodIn wsL_law (wsV RL 169 RX3 yX3_whyNot wsX3_whyNot) := goodIn_app (goodIn_of _ (by decide +kernel)) ggL_law_X3_whyNot
set_option maxRecDepth 20000 in
theorem ggL_law_L_greatest : GoodIn wsL_law wsL_greatest := goodIn_ca (goodIn_ca (goodIn_r _ [730, 55, 56, 731, 732, 733, 2, 734, 61, 62, 63, 64, 65, 69, 70, 71, 72, 73, 735, 736, 737, 738, 16, 723, 289, 290, 15, 291, 292, 293, 294, 295, 35, 296, 297, 298, 299, 32, 261, 262, 263, 264, 181, 182, 183, 184, 185, 186, 187, 188, 34, 189, 190, 191, 192, 300, 301, 302, 303, 87, 304, 305, 306, 307, 39, 739, 740, 741, 742, 743, 744, 745, 746, 905, 906, 907, 908, 909, 910, 911, 912, 913, 928, 929, 930, 931, 932, 933, 934, 935, 936, 937, 938, 939, 940, 941, 942, 943] (by decide +kernel) (by decide +kernel)) (goodIn_sub (fun _ h => List.mem_append_left _ (List.mem_append_left _ (List.mem_append_right _ h))) (by decide +kernel))) (goodIn_sub (fun _ h => List.mem_append_left _ (List.mem_append_right _ h)) (by decide +kernel))
set_option maxRecDepth 20000 in
theorem gL_law_L_greatest : GoodIn wsL_law (va_wsS RL 170 yL_greatest wsL_greatest) := goodIn_app (goodIn_of _ (by decide +kernel)) ggL_law_L_greatest
set_option maxRecDepth 20000 in
theorem ggL_law_X3_greatest : GoodIn wsL_law wsX3_greatest := goodIn_r _ [750, 119, 120, 5, 121, 122, 123, 124, 128, 129, 130, 131, 132, 751, 752, 753, 754, 316, 317, 318, 319, 47, 147, 148, 149, 150, 273, 274, 275, 276, 213, 214, 215, 216, 217, 218, 219, 220, 209, 210, 211, 212, 205, 206, 207, 208, 320, 321, 322, 914, 915, 916, 917, 918, 919, 920, 921, 922, 923, 924, 925, 926, 927] (by decide +kernel) (by decide +kernel)
set_option maxRecDepth 20000 in
theorem gL_law_X3_greatest : GoodIn wsL_law (wsV RL 172 RX3 yX3_greatest wsX3_greatest) := goodIn_app (goodIn_of _ (by decide +kernel)) ggL_law_X3_greatest
set_option maxRecDepth 20000 in
theorem ggL_law_L_guarantors : GoodIn wsL_law wsL_guarantors := goodIn_ca (goodIn_ca (goodIn_r _ [757, 55, 56, 758, 759, 760, 2, 761, 61, 62, 63, 64, 65, 66, 67, 68, 69, 70, 71, 72, 73, 762, 763, 764, 765, 16, 28, 766, 767, 768, 769, 770, 175, 176, 15, 177, 35, 178, 179, 100, 180, 181, 182, 183, 184, 32, 185, 186, 187, 188, 34, 189, 190, 191, 192, 745, 262, 263, 264, 771, 772, 773, 774, 775, 776, 777, 778, 779, 780, 781, 782, 783, 784, 785, 786, 787, 788, 789, 905, 906, 907, 908, 909, 910, 911, 912, 913, 928, 929, 930, 931, 932, 933, 934, 935, 936, 937, 938, 939, 940, 941, 942, 943] (by decide +kernel) (by decide +kernel)) (goodIn_sub (fun _ h => List.mem_append_left _ (List.mem_append_left _ (List.mem_append_right _ h))) (by decide +kernel))) (goodIn_sub (fun _ h => List.mem_append_left _ (List.mem_append_right _ h)) (by decide +kernel))
set_option maxRecDepth 20000 in
theorem gL_law_L_guarantors : GoodIn wsL_law (va_wsS RL 173 yL_guarantors wsL_guarantors) := goodIn_app (goodIn_of _ (by decide +kernel)) ggL_law_L_guarantors
set_option maxRecDepth 20000 in
theorem ggL_law_X3_guarantors : GoodIn wsL_law wsX3_guarantors := goodIn_r _ [793, 125, 126, 5, 127, 122, 123, 124, 119, 120, 121, 128, 129, 130, 131, 132, 794, 795, 796, 797, 50, 201, 202, 203, 204, 147, 148, 149, 150, 47, 205, 206, 207, 208, 209, 210, 211, 212, 213, 214, 215, 216, 217, 218, 219, 220, 273, 274, 275, 276, 914, 915, 916, 917, 918, 919, 920, 921, 922, 923, 924, 925, 926, 927] (by decide +kernel) (by decide +kernel)
set_option maxRecDepth 20000 in
theorem gL_law_X3_guarantors : GoodIn wsL_law (wsV RL 175 RX3 yX3_guarantors wsX3_guarantors) := goodIn_app (goodIn_of _ (by decide +kernel)) ggL_law_X3_guarantors
set_option maxRecDepth 20000 in
theorem ggL_law_L_weeksLeft : GoodIn wsL_law wsL_weeksLeft := goodIn_ca (goodIn_ca (goodIn_r _ [800, 55, 56, 801, 802, 803, 2, 804, 16, 61, 62, 63, 64, 65, 69, 70, 71, 72, 73, 805, 806, 807, 15, 808, 35, 36, 98, 99, 100, 101, 809, 810, 811, 812, 292, 293, 294, 295, 905, 906, 907, 908, 909, 910, 911, 912, 913, 928, 929, 930, 931, 932, 933, 934, 935, 936, 937, 938, 939, 940, 941, 942, 943] (by decide +kernel) (by decide +kernel)) (goodIn_sub (fun _ h => List.mem_append_left _ (List.mem_append_left _ (List.mem_append_right _ h))) (by decide +kernel))) (goodIn_sub (fun _ h => List.mem_append_left _ (List.mem_append_right _ h)) (by decide +kernel))
set_option maxRecDepth 20000 in
theorem gL_law_L_weeksLeft : GoodIn wsL_law (va_wsS RL 176 yL_weeksLeft wsL_weeksLeft) := goodIn_app (goodIn_of _ (by decide +kernel)) ggL_law_L_weeksLeft
set_option maxRecDepth 20000 in
theorem ggL_law_X3_weeksLeft : GoodIn wsL_law wsX3_weeksLeft := goodIn_r _ [816, 119, 120, 5, 121, 122, 123, 124, 128, 129, 130, 131, 132, 817, 818, 819, 820, 147, 148, 149, 150, 47, 914, 915, 916, 917, 918, 919, 920, 921, 922, 923, 924, 925, 926, 927] (by decide +kernel) (by decide +kernel)
set_option maxRecDepth 20000 in
theorem gL_law_X3_weeksLeft : GoodIn wsL_law (wsV RL 178 RX3 yX3_weeksLeft wsX3_weeksLeft) := goodIn_app (goodIn_of _ (by decide +kernel)) ggL_law_X3_weeksLeft
set_option maxRecDepth 20000 in
theorem ggL_law_L_ifDivided : GoodIn wsL_law wsL_ifDivided := goodIn_ca (goodIn_r _ [823, 55, 824, 825, 826, 2, 827, 16, 61, 62, 63, 64, 65, 828, 414, 415, 15, 416, 33, 829, 418, 419, 420, 88, 905, 906, 907, 908, 909, 910, 911, 912, 913, 928, 929, 930, 931, 932, 933, 934, 935, 936, 937, 938, 939, 940, 941, 942, 943] (by decide +kernel) (by decide +kernel)) (goodIn_sub (fun _ h => List.mem_append_left _ (List.mem_append_left _ (List.mem_append_right _ h))) (by decide +kernel))
set_option maxRecDepth 20000 in
theorem gL_law_L_ifDivided : GoodIn wsL_law (va_wsS RL 179 yL_ifDivided wsL_ifDivided) := goodIn_app (goodIn_of _ (by decide +kernel)) ggL_law_L_ifDivided
set_option maxRecDepth 20000 in
theorem ggL_law_X3_ifDivided : GoodIn wsL_law wsX3_ifDivided := goodIn_r _ [833, 119, 120, 5, 121, 122, 123, 124, 128, 129, 130, 131, 132, 429, 430, 431, 432, 47, 425, 426, 427, 428, 147, 148, 149, 150, 914, 915, 916, 917, 918, 919, 920, 921, 922, 923, 924, 925, 926, 927] (by decide +kernel) (by decide +kernel)
set_option maxRecDepth 20000 in
theorem gL_law_X3_ifDivided : GoodIn wsL_law (wsV RL 181 RX3 yX3_ifDivided wsX3_ifDivided) := goodIn_app (goodIn_of _ (by decide +kernel)) ggL_law_X3_ifDivided
set_option maxRecDepth 20000 in
theorem ggL_law_X2_riskiest : GoodIn wsL_law wsX2_riskiest := goodIn_r _ [837, 16, 838, 839, 840, 15, 841, 35, 181, 182, 183, 184, 32, 185, 186, 187, 188, 34, 292, 293, 294, 295, 905, 906, 907, 908, 909, 910, 911, 912, 913, 928, 929, 930, 931, 932, 933, 934, 935, 936, 937, 938, 939, 940, 941, 942, 943] (by decide +kernel) (by decide +kernel)
set_option maxRecDepth 20000 in
theorem gL_law_X2_riskiest : GoodIn wsL_law (wsV RL 182 RX2 yX2_riskiest wsX2_riskiest) := goodIn_app (goodIn_of _ (by decide +kernel)) ggL_law_X2_riskiest
set_option maxRecDepth 20000 in
theorem ggL_law_X3_riskiest : GoodIn wsL_law wsX3_riskiest := goodIn_r _ [845, 132, 846, 847, 848, 5, 849, 147, 148, 149, 150, 47, 213, 214, 215, 216, 217, 218, 219, 220, 209, 210, 211, 212, 914, 915, 916, 917, 918, 919, 920, 921, 922, 923, 924, 925, 926, 927] (by decide +kernel) (by decide +kernel)
set_option maxRecDepth 20000 in
theorem gL_law_X3_riskiest : GoodIn wsL_law (wsV RL 185 RX3 yX3_riskiest wsX3_riskiest) := goodIn_app (goodIn_of _ (by decide +kernel)) ggL_law_X3_riskiest
set_option maxRecDepth 20000 in
theorem ggL_law_X2_lentShare : GoodIn wsL_law wsX2_lentShare := goodIn_r _ [853, 16, 854, 855, 856, 15, 857, 858, 686, 687, 688, 32, 859, 690, 691, 692, 35, 905, 906, 907, 908, 909, 910, 911, 912, 913, 928, 929, 930, 931, 932, 933, 934, 935, 936, 937, 938, 939, 940, 941, 942, 943] (by decide +kernel) (by decide +kernel)
set_option maxRecDepth 20000 in
theorem gL_law_X2_lentShare : GoodIn wsL_law (wsV RL 186 RX2 yX2_lentShare wsX2_lentShare) := goodIn_app (goodIn_of _ (by decide +kernel)) ggL_law_X2_lentShare
set_option maxRecDepth 20000 in
theorem ggL_law_X3_lentShare : GoodIn wsL_law wsX3_lentShare := goodIn_r _ [863, 132, 864, 865, 866, 5, 867, 701, 702, 703, 704, 147, 148, 149, 150, 47, 914, 915, 916, 917, 918, 919, 920, 921, 922, 923, 924, 925, 926, 927] (by decide +kernel) (by decide +kernel)
set_option maxRecDepth 20000 in
theorem gL_law_X3_lentShare : GoodIn wsL_law (wsV RL 190 RX3 yX3_lentShare wsX3_lentShare) := goodIn_app (goodIn_of _ (by decide +kernel)) ggL_law_X3_lentShare
set_option maxRecDepth 20000 in
theorem ggL_law_X2_digest : GoodIn wsL_law wsX2_digest := goodIn_r _ [871, 872, 873, 16, 440, 20, 455, 22, 673, 674, 675, 2, 676, 677, 678, 679, 680, 681, 682, 683, 684, 78, 685, 686, 687, 15, 688, 32, 689, 690, 691, 692, 35, 600, 601, 602, 603, 292, 293, 294, 295, 874, 875, 876, 877, 660, 641, 642, 643, 644, 33, 36, 37, 38, 185, 186, 187, 188, 34, 189, 190, 191, 192, 261, 262, 263, 264, 181, 182, 183, 184, 174, 175, 176, 177, 178, 179, 100, 180, 661, 236, 237, 735, 736, 737, 738, 723, 289, 290, 291, 296, 297, 298, 299, 300, 301, 302, 303, 87, 304, 305, 306, 307, 39, 739, 740, 741, 742, 743, 744, 745, 746, 762, 763, 764, 765, 28, 766, 767, 768, 769, 770, 771, 772, 773, 774, 775, 776, 777, 778, 779, 780, 781, 782, 783, 784, 785, 786, 787, 788, 789, 805, 806, 807, 808, 98, 99, 101, 809, 810, 811, 812, 828, 414, 415, 416, 829, 418, 419, 420, 88, 838, 839, 840, 841, 854, 855, 856, 857, 858, 859, 878, 879, 880, 881, 882, 905, 906, 907, 908, 909, 910, 911, 912, 913, 928, 929, 930, 931, 932, 933, 934, 935, 936, 937, 938, 939, 940, 941, 942, 943] (by decide +kernel) (by decide +kernel)
set_option maxRecDepth 20000 in
theorem gL_law_X2_digest : GoodIn wsL_law (wsV RL 191 RX2 yX2_digest wsX2_digest) := goodIn_app (goodIn_of _ (by decide +kernel)) ggL_law_X2_digest
set_option maxRecDepth 20000 in
theorem ggL_law_X3_digest : GoodIn wsL_law wsX3_digest := goodIn_r _ [886, 132, 887, 888, 47, 48, 460, 49, 697, 698, 699, 5, 700, 137, 701, 702, 703, 704, 147, 148, 149, 150, 608, 609, 610, 611, 889, 890, 891, 892, 893, 894, 895, 896, 897, 649, 650, 651, 652, 217, 218, 219, 220, 209, 210, 211, 212, 205, 206, 207, 208, 273, 274, 275, 276, 213, 214, 215, 216, 201, 202, 203, 204, 751, 752, 753, 754, 316, 317, 318, 319, 320, 321, 322, 794, 795, 796, 797, 50, 817, 818, 819, 820, 429, 430, 431, 432, 425, 426, 427, 428, 846, 847, 848, 849, 864, 865, 866, 867, 898, 899, 900, 901, 902, 903, 904, 914, 915, 916, 917, 918, 919, 920, 921, 922, 923, 924, 925, 926, 927] (by decide +kernel) (by decide +kernel)
set_option maxRecDepth 20000 in
theorem gL_law_X3_digest : GoodIn wsL_law (wsV RL 195 RX3 yX3_digest wsX3_digest) := goodIn_app (goodIn_of _ (by decide +kernel)) ggL_law_X3_digest

/-! good words of the law's calls, 2 -/
set_option maxRecDepth 20000 in
theorem ggL_law_X2_count : GoodIn wsL_law wsX2_count := goodIn_ca (goodIn_r _ [87, 43, 44, 2, 45, 46, 47, 88, 89, 90, 91, 12, 92, 93, 94, 95, 96, 97, 98, 99, 100, 101, 102, 103, 11, 104, 28, 105, 106, 107, 108, 31, 71, 72, 73, 74, 75, 76, 77, 78, 420, 421, 422, 423, 424, 425, 426, 427, 428, 429, 430, 431, 432, 433, 434, 435, 436, 437, 438, 439, 440, 441, 442, 443, 444] (by decide +kernel) (by decide +kernel)) (goodIn_sub (fun _ h => List.mem_append_left _ (List.mem_append_left _ (List.mem_append_right _ h))) (by decide +kernel))
set_option maxRecDepth 20000 in
theorem gL_law_X2_count : GoodIn wsL_law (wsV RL 13 RX2 yX2_count wsX2_count) := goodIn_app (goodIn_of _ (by decide +kernel)) ggL_law_X2_count
set_option maxRecDepth 20000 in
theorem ggL_law_acts_r1 : GoodIn wsL_law wsL_acts_r1 := goodIn_r _ [203, 204, 205, 206, 81, 207, 208, 84, 85, 86, 2, 87, 43, 44, 45, 46, 47, 88, 89, 90, 91, 12, 92, 93] (by decide +kernel) (by decide +kernel)
set_option maxRecDepth 20000 in
theorem ggL_law_acts_r2 : GoodIn wsL_law wsL_acts_r2 := goodIn_r _ [94, 95, 96, 97, 98, 99, 100, 101, 102, 103, 11, 104, 28, 105, 106, 107, 108, 31, 71, 72, 73, 74, 75, 76] (by decide +kernel) (by decide +kernel)
set_option maxRecDepth 20000 in
theorem ggL_law_acts_r3 : GoodIn wsL_law wsL_acts_r3 := goodIn_r _ [77, 78, 132, 133, 134, 135, 124, 125, 126, 127, 128, 136, 137, 138, 139, 29, 32, 33, 34, 140, 141, 142, 143, 30] (by decide +kernel) (by decide +kernel)
set_option maxRecDepth 20000 in
theorem ggL_law_acts_r4 : GoodIn wsL_law wsL_acts_r4 := goodIn_r _ [144, 145, 146, 147, 148, 149, 150, 151, 152, 153, 154, 155, 156, 157, 158, 159, 160, 161, 65, 162, 209, 210, 211, 212] (by decide +kernel) (by decide +kernel)
set_option maxRecDepth 20000 in
theorem ggL_law_acts_r5 : GoodIn wsL_law wsL_acts_r5 := goodIn_r _ [213, 214, 215, 216, 217, 218, 219, 13, 220, 221, 222, 223, 48, 49, 50, 51, 35, 52, 53, 54, 55, 56, 57, 58] (by decide +kernel) (by decide +kernel)
set_option maxRecDepth 20000 in
theorem ggL_law_acts_r6 : GoodIn wsL_law wsL_acts_r6 := goodIn_r _ [59, 60, 61, 62, 63, 64, 66, 67, 68, 69, 70, 224, 225, 226, 227, 228, 229, 230, 231, 232, 233, 234, 235, 236] (by decide +kernel) (by decide +kernel)
set_option maxRecDepth 20000 in
theorem ggL_law_acts_r7 : GoodIn wsL_law wsL_acts_r7 := goodIn_r _ [119, 120, 121, 122, 123, 129, 130, 131, 237, 238, 239, 240, 241, 242, 243, 244, 245, 246, 247, 248, 249, 250, 251, 252] (by decide +kernel) (by decide +kernel)
set_option maxRecDepth 20000 in
theorem ggL_law_acts_r8 : GoodIn wsL_law wsL_acts_r8 := goodIn_r _ [253, 254, 255, 256, 257, 258, 259, 260, 261, 262, 263, 264, 265, 266, 267, 268, 269, 270, 271, 272, 273, 274, 275, 276] (by decide +kernel) (by decide +kernel)
set_option maxRecDepth 20000 in
theorem ggL_law_acts_r9 : GoodIn wsL_law wsL_acts_r9 := goodIn_r _ [192, 193, 194, 195, 196, 197, 198, 199, 277, 278, 279, 280, 281, 282, 283, 284, 285, 163, 164, 165, 166, 167, 168, 169] (by decide +kernel) (by decide +kernel)
set_option maxRecDepth 20000 in
theorem ggL_law_acts_r10 : GoodIn wsL_law wsL_acts_r10 := goodIn_r _ [170, 171, 172, 173, 174, 286, 287, 288, 289, 290, 291, 292, 293, 294, 295, 296, 297, 298, 299, 300, 301, 302, 303, 304] (by decide +kernel) (by decide +kernel)
set_option maxRecDepth 20000 in
theorem ggL_law_acts_r11 : GoodIn wsL_law wsL_acts_r11 := goodIn_r _ [305, 306, 307, 308, 309, 310, 311, 312, 313, 314, 315, 316, 317, 318, 319, 320, 321, 322, 323, 324, 325, 326, 327, 328] (by decide +kernel) (by decide +kernel)
set_option maxRecDepth 20000 in
theorem ggL_law_acts_r12 : GoodIn wsL_law wsL_acts_r12 := goodIn_r _ [329, 330, 331, 332, 333, 334, 335, 336, 337, 338, 339, 340, 341, 342, 343, 344, 345, 346, 347, 348, 349, 350, 351, 352] (by decide +kernel) (by decide +kernel)
set_option maxRecDepth 20000 in
theorem ggL_law_acts_r13 : GoodIn wsL_law wsL_acts_r13 := goodIn_r _ [353, 354, 355, 356, 357, 358, 359, 360, 361, 362, 363, 364, 16, 14] (by decide +kernel) (by decide +kernel)
theorem ggL_law_acts_c : GoodIn wsL_law [.code yL_acts cL_acts 29 (some .boolean)] := fun w hw => by
  cases List.mem_singleton.mp hw
  exact ⟨List.mem_of_getElem? (i := 202) rfl, good_of_word rfl⟩
theorem goodIn_c1 {big a : List Cond} {c : Cond} (h1 : GoodIn big [c]) (h2 : GoodIn big a) : GoodIn big (c :: a) := fun w h => (List.mem_cons.mp h).elim (fun e => h1 w (List.mem_cons.mpr (Or.inl e))) (h2 w)
theorem ggL_law_x20 : GoodIn wsL_law wsX20 := goodIn_sub inlX2 (by decide +kernel)
theorem ggL_law_x00 : GoodIn wsL_law wsX00 := goodIn_sub inlX0 (by decide +kernel)
set_option maxRecDepth 20000 in
theorem ggL_law_L_acts : GoodIn wsL_law wsL_acts := goodIn_ca (goodIn_ca (goodIn_ca (goodIn_c1 ggL_law_acts_c (goodIn_app (goodIn_app (goodIn_app ggL_law_acts_r1 (goodIn_app ggL_law_acts_r2 (goodIn_app ggL_law_acts_r3 (goodIn_app ggL_law_acts_r4 (goodIn_app ggL_law_acts_r5 (goodIn_app ggL_law_acts_r6 (goodIn_app ggL_law_acts_r7 (goodIn_app ggL_law_acts_r8 (goodIn_app ggL_law_acts_r9 (goodIn_app ggL_law_acts_r10 (goodIn_app ggL_law_acts_r11 (goodIn_app ggL_law_acts_r12 ggL_law_acts_r13)))))))))))) ggL_law_x20) ggL_law_x00)) (goodIn_sub (fun _ h => List.mem_append_left _ (List.mem_append_left _ (List.mem_append_right _ h))) (by decide +kernel))) (goodIn_sub (fun _ h => List.mem_append_left _ (List.mem_append_right _ h)) (by decide +kernel))) (goodIn_sub (fun _ h => List.mem_append_right _ h) (by decide +kernel))
set_option maxRecDepth 20000 in
theorem gL_law_L_acts : GoodIn wsL_law (va_wsS RL 116 yL_acts wsL_acts) := goodIn_app (goodIn_of _ (by decide +kernel)) ggL_law_L_acts
set_option maxRecDepth 20000 in
theorem ggL_law_X2_undo : GoodIn wsL_law wsX2_undo := goodIn_ca (goodIn_r _ [368, 301, 302, 100, 12, 13, 48, 49, 50, 11, 51, 28, 29, 30, 31, 32, 33, 34, 35, 52, 53, 54, 55, 56, 57, 58, 59, 60, 61, 62, 63, 64, 65, 66, 67, 68, 69, 70, 420, 421, 422, 423, 424, 425, 426, 427, 428, 429, 430, 431, 432, 433, 434, 435, 436, 437, 438, 439, 440, 441, 442, 443, 444] (by decide +kernel) (by decide +kernel)) (goodIn_sub (fun _ h => List.mem_append_right _ h) (by decide +kernel))
set_option maxRecDepth 20000 in
theorem gL_law_X2_undo : GoodIn wsL_law (wsV RL 120 RX2 yX2_undo wsX2_undo) := goodIn_app (goodIn_of _ (by decide +kernel)) ggL_law_X2_undo
set_option maxRecDepth 20000 in
theorem ggL_law_L_up : GoodIn wsL_law wsL_up := goodIn_r _ [207, 208] (by decide +kernel) (by decide +kernel)
set_option maxRecDepth 20000 in
theorem gL_law_L_up : GoodIn wsL_law (va_wsS RL 29 yL_up wsL_up) := goodIn_app (goodIn_of _ (by decide +kernel)) ggL_law_L_up
set_option maxRecDepth 20000 in
theorem ggL_law_L_isAhead : GoodIn wsL_law wsL_isAhead := goodIn_ca (goodIn_ca (goodIn_r _ [371, 372, 373, 374, 2, 375, 124, 125, 126, 127, 128, 43, 44, 45, 46, 47, 376, 377, 378, 379, 12, 261, 262, 263, 11, 264, 75, 76, 77, 78, 31, 265, 266, 267, 268, 28, 148, 149, 150, 151, 152, 153, 154, 155, 140, 141, 142, 143, 30, 144, 145, 146, 147, 269, 270, 271, 272, 52, 273, 274, 275, 276, 35, 380, 381, 382, 383, 384, 385, 386, 387, 388, 389, 390, 391, 213, 214, 215, 392, 393, 394, 395, 24, 396, 397, 398, 399, 400, 157, 158, 159, 160, 161, 65, 162, 401, 402, 403, 404, 405, 406, 407, 408, 409, 410, 411, 412, 413, 414, 415, 416, 417, 418, 419, 257, 258, 259, 260, 132, 133, 134, 135, 136, 137, 138, 139, 29, 32, 33, 34, 156, 420, 421, 422, 423, 424, 425, 426, 427, 428, 429, 430, 431, 432, 433, 434, 435, 436, 437, 438, 439, 440, 441, 442, 443, 444] (by decide +kernel) (by decide +kernel)) (goodIn_sub (fun _ h => List.mem_append_left _ (List.mem_append_right _ h)) (by decide +kernel))) (goodIn_sub (fun _ h => List.mem_append_left _ (List.mem_append_left _ (List.mem_append_right _ h))) (by decide +kernel))
set_option maxRecDepth 20000 in
theorem gL_law_L_isAhead : GoodIn wsL_law (va_wsS RL 123 yL_isAhead wsL_isAhead) := goodIn_app (goodIn_of _ (by decide +kernel)) ggL_law_L_isAhead

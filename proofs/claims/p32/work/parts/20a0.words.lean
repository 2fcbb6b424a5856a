/-! the law's words stand in the tables -/
section
theorem zmemp {big ws : List Cond} (ps : List Nat) (hp : ws = ps.filterMap (fun i => big[i]?)) : ∀ w ∈ ws, w ∈ big := fun w hw => by
  rw [hp] at hw
  obtain ⟨i, -, hi⟩ := List.mem_filterMap.mp hw
  exact List.mem_of_getElem? hi
theorem zmtk {big ws : List Cond} {c : Cond} (k : Nat) (hA : ∀ w ∈ ws.take k, w ∈ big) (hd : ws.drop k = c :: ws.drop (k + 1)) (hm : c ∈ big) (hB : ∀ w ∈ ws.drop (k + 1), w ∈ big) : ∀ w ∈ ws, w ∈ big := fun w hw => by
  rw [← List.take_append_drop k ws] at hw
  rcases List.mem_append.mp hw with h | h
  · exact hA w h
  · rw [hd] at h
    rcases List.mem_cons.mp h with rfl | h
    · exact hm
    · exact hB w h
theorem zap {big a b : List Cond} (ha : ∀ w ∈ a, w ∈ big) (hb : ∀ w ∈ b, w ∈ big) : ∀ w ∈ a ++ b, w ∈ big := fun w h => (List.mem_append.mp h).elim (ha w) (hb w)
theorem wsL_law0_r1_in : ∀ w ∈ wsL_law0_r1, w ∈ lw_tbl := zmemp [26, 27, 14, 28, 29, 30, 31, 32, 33, 34, 35, 15, 122, 123, 125, 120, 126, 121, 127, 101, 102, 16, 128, 99] (by decide +kernel)
theorem wsL_law0_r2_in : ∀ w ∈ wsL_law0_r2, w ∈ lw_tbl := zmemp [129, 37, 38, 39, 40, 41, 42, 44, 45, 46, 47, 48, 104, 105, 106, 149, 150, 151, 152, 153, 154, 155, 156, 20] (by decide +kernel)
theorem wsL_law0_r3_in : ∀ w ∈ wsL_law0_r3, w ∈ lw_tbl := zmemp [224, 225, 226, 227, 50, 52, 54, 56, 58, 60, 62, 64, 228, 229, 230, 231, 232, 21, 233, 234, 236, 235, 22, 237] (by decide +kernel)
theorem wsL_law0_r4_in : ∀ w ∈ wsL_law0_r4, w ∈ lw_tbl := zmemp [238, 239, 240, 241, 242, 243, 244, 534, 535, 13, 536, 547, 265, 266, 267, 268, 269, 271, 1, 272, 51, 53, 55, 57] (by decide +kernel)
theorem wsL_law0_r5_in : ∀ w ∈ wsL_law0_r5, w ∈ lw_tbl := zmemp [59, 61, 63, 65, 124, 273, 274, 275, 276, 277, 278, 279, 280, 537, 538, 539, 540, 541, 542, 543, 544, 545, 546, 344] (by decide +kernel)
theorem wsL_law0_r6_in : ∀ w ∈ wsL_law0_r6, w ∈ lw_tbl := zmemp [345, 346, 347, 43, 298, 299, 300, 301, 23, 348, 349, 350, 294, 295, 296, 297, 317, 318, 319, 320, 321, 322, 323, 324] (by decide +kernel)
theorem wsL_law0_r7_in : ∀ w ∈ wsL_law0_r7, w ∈ lw_tbl := zmemp [325, 326, 327, 328, 329, 330, 331, 332, 333, 334, 335, 336, 337, 338, 339, 340, 341, 342, 343, 441, 442, 443, 444, 445] (by decide +kernel)
theorem wsL_law0_r8_in : ∀ w ∈ wsL_law0_r8, w ∈ lw_tbl := zmemp [446, 447, 448, 449, 450, 451, 452, 548, 549, 550, 551, 552, 553, 554, 555, 281, 282, 283, 284, 289, 290, 291, 292, 293] (by decide +kernel)
theorem wsL_law0_r9_ina : ∀ w ∈ wsL_law0_r9.take 10, w ∈ lw_tbl := zmemp [351, 352, 353, 354, 49, 355, 356, 357, 359, 360] (by decide +kernel)
theorem wsL_law0_r9_inb : ∀ w ∈ wsL_law0_r9.drop 11, w ∈ lw_tbl := zmemp [382, 485, 285, 286, 287, 288, 362, 363, 364, 365, 366, 367, 368] (by decide +kernel)
set_option maxRecDepth 100000 in
theorem wsL_law0_r9_inc : (.code yL_acts cL_acts 29 (some .boolean) : Cond) ∈ lw_tbl := List.mem_of_getElem? (i := 361) rfl
set_option maxRecDepth 100000 in
theorem wsL_law0_r9_in : ∀ w ∈ wsL_law0_r9, w ∈ lw_tbl := zmtk 10 wsL_law0_r9_ina rfl wsL_law0_r9_inc wsL_law0_r9_inb
theorem wsL_law0_r10_in : ∀ w ∈ wsL_law0_r10, w ∈ lw_tbl := zmemp [369, 371, 2, 372, 373, 375, 3, 376, 377, 378, 379, 380, 381, 383, 384, 385, 386, 387, 388, 389, 390, 391, 392, 393] (by decide +kernel)
theorem wsL_law0_r11_in : ∀ w ∈ wsL_law0_r11, w ∈ lw_tbl := zmemp [394, 395, 396, 397, 399, 400, 401, 402, 403, 404, 405, 406, 407, 408, 409, 410, 411, 412, 413, 414, 415, 416, 417, 418] (by decide +kernel)
theorem wsL_law0_r12_in : ∀ w ∈ wsL_law0_r12, w ∈ lw_tbl := zmemp [419, 420, 421, 422, 423, 424, 425, 426, 427, 428, 429, 430, 431, 432, 433, 434, 435, 436, 437, 438, 439, 440, 453, 454] (by decide +kernel)
theorem wsL_law0_r13_in : ∀ w ∈ wsL_law0_r13, w ∈ lw_tbl := zmemp [455, 456, 457, 458, 459, 460, 461, 462, 463, 464, 465, 466, 467, 249, 24, 468, 469, 470, 471, 473, 474, 475, 476, 477] (by decide +kernel)
theorem wsL_law0_r14_in : ∀ w ∈ wsL_law0_r14, w ∈ lw_tbl := zmemp [479, 4, 480, 481, 483, 5, 484, 486, 487, 488, 489, 490, 491, 492, 493, 494, 496, 497, 498, 499, 500, 501, 502, 503] (by decide +kernel)
theorem wsL_law0_r15_in : ∀ w ∈ wsL_law0_r15, w ∈ lw_tbl := zmemp [504, 505, 506, 507, 508, 509, 510, 511, 512, 513, 514, 515, 516, 517, 518, 519, 520, 521, 522, 523, 524, 525, 526, 527] (by decide +kernel)
theorem wsL_law0_r16_in : ∀ w ∈ wsL_law0_r16, w ∈ lw_tbl := zmemp [528, 529, 530, 531, 532, 245, 246, 247, 248, 556, 557, 558, 559, 560, 561, 562, 563, 565, 6, 566, 567, 569, 7, 570] (by decide +kernel)
theorem wsL_law0_r17_in : ∀ w ∈ wsL_law0_r17, w ∈ lw_tbl := zmemp [571, 572, 573, 574, 575, 576, 577, 578, 579, 581, 8, 582, 583, 585, 9, 586, 587, 588, 590, 10, 591, 592, 594, 11] (by decide +kernel)
theorem wsL_law0_r18_in : ∀ w ∈ wsL_law0_r18, w ∈ lw_tbl := zmemp [595, 596, 597, 25, 598, 599, 600, 601, 602, 604, 12, 605] (by decide +kernel)
theorem wsX20_int : ∀ w ∈ wsX20, w ∈ lw_tbl := by decide +kernel
theorem wsX00_int : ∀ w ∈ wsX00, w ∈ lw_tbl := by decide +kernel
theorem wsX10_int : ∀ w ∈ wsX10, w ∈ lw_tbl := by decide +kernel
theorem wsL_law_in0 : ∀ w ∈ wsL_law0, w ∈ lw_tbl := zap (zap (zap (zap (zap wsL_law0_r1_in (zap wsL_law0_r2_in (zap wsL_law0_r3_in (zap wsL_law0_r4_in (zap wsL_law0_r5_in (zap wsL_law0_r6_in (zap wsL_law0_r7_in (zap wsL_law0_r8_in (zap wsL_law0_r9_in (zap wsL_law0_r10_in (zap wsL_law0_r11_in (zap wsL_law0_r12_in (zap wsL_law0_r13_in (zap wsL_law0_r14_in (zap wsL_law0_r15_in (zap wsL_law0_r16_in (zap wsL_law0_r17_in wsL_law0_r18_in))))))))))))))))) wsX20_int) wsX00_int) wsX10_int) (fun w h => nomatch h)
theorem wsL_law_x0 : ∀ w ∈ (vx_atS RX2 130 "java/lang/IllegalArgumentException" ["java/lang/RuntimeException", "java/lang/Exception"]).filter goodWord, w ∈ lw_tbl := by decide +kernel
theorem wsL_law_x1 : ∀ w ∈ (vx_atS RX2 212 "java/lang/IndexOutOfBoundsException" ["java/lang/RuntimeException", "java/lang/Exception"]).filter goodWord, w ∈ lw_tbl := by decide +kernel
theorem wsL_law_x2 : ∀ w ∈ (vx_atS RX2 88 "java/lang/IllegalStateException" ["java/lang/RuntimeException", "java/lang/Exception"]).filter goodWord, w ∈ lw_tbl := by decide +kernel
theorem wsL_law_in : ∀ w ∈ wsL_law, w ∈ lw_tbl := fun w h => (List.mem_append.mp h).elim (fun h => (List.mem_append.mp h).elim (fun h => (List.mem_append.mp h).elim (fun h => wsL_law_in0 w h) (fun h => wsL_law_x0 w h)) (fun h => wsL_law_x1 w h)) (fun h => wsL_law_x2 w h)
theorem inlX0 : ∀ w ∈ wsX00, w ∈ wsL_law := fun _ h => List.mem_append_left _ (List.mem_append_left _ (List.mem_append_left _ (List.mem_append_left _ (List.mem_append_left _ (List.mem_append_right _ h)))))
theorem inX0 : ∀ w ∈ wsX00, w ∈ lw_tbl := fun w h => wsL_law_in w (inlX0 w h)
theorem inlX1 : ∀ w ∈ wsX10, w ∈ wsL_law := fun _ h => List.mem_append_left _ (List.mem_append_left _ (List.mem_append_left _ (List.mem_append_left _ (List.mem_append_right _ h))))
theorem inX1 : ∀ w ∈ wsX10, w ∈ lw_tbl := fun w h => wsL_law_in w (inlX1 w h)
theorem inlX2 : ∀ w ∈ wsX20, w ∈ wsL_law := fun _ h => List.mem_append_left _ (List.mem_append_left _ (List.mem_append_left _ (List.mem_append_left _ (List.mem_append_left _ (List.mem_append_left _ (List.mem_append_right _ h))))))
theorem inX2 : ∀ w ∈ wsX20, w ∈ lw_tbl := fun w h => wsL_law_in w (inlX2 w h)
theorem inJ6 : ∀ w ∈ wsJ60, w ∈ lw_tbl := by decide +kernel
theorem inJ9 : ∀ w ∈ wsJ90, w ∈ lw_tbl := by decide +kernel
theorem inJ0 : ∀ w ∈ wsJ00, w ∈ lw_tbl := by decide +kernel
theorem inJ10 : ∀ w ∈ wsJ100, w ∈ lw_tbl := by decide +kernel
end

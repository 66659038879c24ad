set_option maxRecDepth 100000 in
theorem wsL_law0_r1_in : ∀ w ∈ wsL_law0_r1, w ∈ lw_tbl := fun w h => (goodIn_r wsL_law0_r1 [64, 65, 57, 414, 415, 58, 586, 66, 67, 68, 69, 70, 71, 109, 72, 73, 74, 110, 75, 82, 416, 417, 418, 419] (by decide +kernel) (by decide +kernel) w h).1
set_option maxRecDepth 100000 in
theorem wsL_law0_r2_in : ∀ w ∈ wsL_law0_r2, w ∈ lw_tbl := fun w h => (goodIn_r wsL_law0_r2 [430, 434, 429, 245, 246, 56, 247, 248, 249, 250, 251, 252, 253, 62, 319, 321, 29, 322, 77, 78, 79, 80, 76, 143] (by decide +kernel) (by decide +kernel) w h).1
set_option maxRecDepth 100000 in
theorem wsL_law0_r3_in : ∀ w ∈ wsL_law0_r3, w ∈ lw_tbl := fun w h => (goodIn_r wsL_law0_r3 [144, 145, 170, 172, 13, 173, 323, 325, 30, 326, 115, 117, 0, 118, 127, 129, 3, 130, 131, 133, 4, 134, 135, 137] (by decide +kernel) (by decide +kernel) w h).1
set_option maxRecDepth 100000 in
theorem wsL_law0_r4_in : ∀ w ∈ wsL_law0_r4, w ∈ lw_tbl := fun w h => (goodIn_r wsL_law0_r4 [5, 138, 139, 141, 6, 142, 83, 146, 148, 7, 149, 327, 329, 31, 330, 178, 180, 15, 181, 331, 333, 32, 334, 335] (by decide +kernel) (by decide +kernel) w h).1
set_option maxRecDepth 100000 in
theorem wsL_law0_r5_in : ∀ w ∈ wsL_law0_r5, w ∈ lw_tbl := fun w h => (goodIn_r wsL_law0_r5 [337, 33, 338, 339, 341, 34, 342, 343, 345, 35, 346, 166, 168, 12, 169, 81, 347, 349, 36, 350, 351, 353, 37, 354] (by decide +kernel) (by decide +kernel) w h).1
set_option maxRecDepth 100000 in
theorem wsL_law0_r6_in : ∀ w ∈ wsL_law0_r6, w ∈ lw_tbl := fun w h => (goodIn_r wsL_law0_r6 [355, 357, 38, 358, 162, 164, 11, 165, 150, 152, 8, 153, 154, 156, 9, 157, 158, 160, 10, 161, 174, 176, 14, 177] (by decide +kernel) (by decide +kernel) w h).1
set_option maxRecDepth 100000 in
theorem wsL_law0_r7_in : ∀ w ∈ wsL_law0_r7, w ∈ lw_tbl := fun w h => (goodIn_r wsL_law0_r7 [182, 184, 16, 185, 186, 188, 17, 189, 190, 192, 18, 193, 194, 195, 63, 196, 197, 199, 19, 200, 201, 203, 20, 204] (by decide +kernel) (by decide +kernel) w h).1
set_option maxRecDepth 100000 in
theorem wsL_law0_r8_in : ∀ w ∈ wsL_law0_r8, w ∈ lw_tbl := fun w h => (goodIn_r wsL_law0_r8 [205, 207, 21, 208, 209, 211, 22, 212, 213, 215, 23, 216, 217, 219, 24, 220, 221, 223, 25, 224, 225, 227, 26, 228] (by decide +kernel) (by decide +kernel) w h).1
set_option maxRecDepth 100000 in
theorem wsL_law0_r9_in : ∀ w ∈ wsL_law0_r9, w ∈ lw_tbl := fun w h => (goodIn_r wsL_law0_r9 [229, 231, 27, 232, 123, 125, 2, 126, 470, 471, 472, 473, 431, 432, 427, 428, 421, 474, 476, 39, 477, 420, 478, 480] (by decide +kernel) (by decide +kernel) w h).1
set_option maxRecDepth 100000 in
theorem wsL_law0_r10_in : ∀ w ∈ wsL_law0_r10, w ∈ lw_tbl := fun w h => (goodIn_r wsL_law0_r10 [40, 481, 422, 423, 424, 425, 482, 484, 41, 485, 486, 488, 42, 489, 490, 492, 43, 493, 494, 496, 44, 497, 433, 498] (by decide +kernel) (by decide +kernel) w h).1
set_option maxRecDepth 100000 in
theorem wsL_law0_r11_in : ∀ w ∈ wsL_law0_r11, w ∈ lw_tbl := fun w h => (goodIn_r wsL_law0_r11 [500, 45, 501, 502, 504, 46, 505, 426, 506, 508, 47, 509, 510, 512, 48, 513, 514, 516, 49, 517, 518, 520, 50, 521] (by decide +kernel) (by decide +kernel) w h).1
set_option maxRecDepth 100000 in
theorem wsL_law0_r12_in : ∀ w ∈ wsL_law0_r12, w ∈ lw_tbl := fun w h => (goodIn_r wsL_law0_r12 [522, 524, 51, 525, 526, 528, 52, 529, 530, 532, 53, 533, 534, 535, 536, 537, 539, 54, 540, 541, 543, 55, 544, 466] (by decide +kernel) (by decide +kernel) w h).1
set_option maxRecDepth 100000 in
theorem wsL_law0_r13_in : ∀ w ∈ wsL_law0_r13, w ∈ lw_tbl := fun w h => (goodIn_r wsL_law0_r13 [467, 468, 469, 359, 360, 361, 362, 363, 364, 365, 370, 372, 366, 367, 368, 545, 546, 547, 548, 549, 375, 376, 377, 378] (by decide +kernel) (by decide +kernel) w h).1
set_option maxRecDepth 100000 in
theorem wsL_law0_r14_in : ∀ w ∈ wsL_law0_r14, w ∈ lw_tbl := fun w h => (goodIn_r wsL_law0_r14 [379, 380, 381, 550, 551, 552, 553, 111, 112, 113, 114, 119, 121, 1, 122, 554, 555, 556, 557, 233, 234, 235, 236, 558] (by decide +kernel) (by decide +kernel) w h).1
set_option maxRecDepth 100000 in
theorem wsL_law0_r15_in : ∀ w ∈ wsL_law0_r15, w ∈ lw_tbl := fun w h => (goodIn_r wsL_law0_r15 [559, 560, 561, 383, 384, 385, 386, 387, 388, 389, 562, 563, 564, 565, 391, 392, 393, 394, 395, 396, 397, 566, 567, 568] (by decide +kernel) (by decide +kernel) w h).1
set_option maxRecDepth 100000 in
theorem wsL_law0_r16_in : ∀ w ∈ wsL_law0_r16, w ∈ lw_tbl := fun w h => (goodIn_r wsL_law0_r16 [569, 399, 400, 401, 402, 403, 404, 405, 570, 571, 572, 573, 237, 238, 239, 240, 574, 575, 576, 577, 241, 242, 243, 244] (by decide +kernel) (by decide +kernel) w h).1
set_option maxRecDepth 100000 in
theorem wsL_law0_r17_in : ∀ w ∈ wsL_law0_r17, w ∈ lw_tbl := fun w h => (goodIn_r wsL_law0_r17 [578, 579, 580, 581, 407, 408, 409, 410, 411, 412, 413, 582, 583, 584, 585] (by decide +kernel) (by decide +kernel) w h).1
set_option maxRecDepth 100000 in
theorem inX0 : ∀ w ∈ wsX00, w ∈ lw_tbl := by decide +kernel
set_option maxRecDepth 100000 in
theorem inX1 : ∀ w ∈ wsX10, w ∈ lw_tbl := by decide +kernel
set_option maxRecDepth 100000 in
theorem wsL_law_x0 : ∀ w ∈ vxA.filter goodWord, w ∈ lw_tbl := by decide +kernel
theorem wsL_law_c : ∀ w ∈ wsL_law0_r1 ++ (wsL_law0_r2 ++ (wsL_law0_r3 ++ (wsL_law0_r4 ++ (wsL_law0_r5 ++ (wsL_law0_r6 ++ (wsL_law0_r7 ++ (wsL_law0_r8 ++ (wsL_law0_r9 ++ (wsL_law0_r10 ++ (wsL_law0_r11 ++ (wsL_law0_r12 ++ (wsL_law0_r13 ++ (wsL_law0_r14 ++ (wsL_law0_r15 ++ (wsL_law0_r16 ++ wsL_law0_r17))))))))))))))), w ∈ lw_tbl := fun w h => (List.mem_append.mp h).elim (fun h => wsL_law0_r1_in w h) (fun h => (List.mem_append.mp h).elim (fun h => wsL_law0_r2_in w h) (fun h => (List.mem_append.mp h).elim (fun h => wsL_law0_r3_in w h) (fun h => (List.mem_append.mp h).elim (fun h => wsL_law0_r4_in w h) (fun h => (List.mem_append.mp h).elim (fun h => wsL_law0_r5_in w h) (fun h => (List.mem_append.mp h).elim (fun h => wsL_law0_r6_in w h) (fun h => (List.mem_append.mp h).elim (fun h => wsL_law0_r7_in w h) (fun h => (List.mem_append.mp h).elim (fun h => wsL_law0_r8_in w h) (fun h => (List.mem_append.mp h).elim (fun h => wsL_law0_r9_in w h) (fun h => (List.mem_append.mp h).elim (fun h => wsL_law0_r10_in w h) (fun h => (List.mem_append.mp h).elim (fun h => wsL_law0_r11_in w h) (fun h => (List.mem_append.mp h).elim (fun h => wsL_law0_r12_in w h) (fun h => (List.mem_append.mp h).elim (fun h => wsL_law0_r13_in w h) (fun h => (List.mem_append.mp h).elim (fun h => wsL_law0_r14_in w h) (fun h => (List.mem_append.mp h).elim (fun h => wsL_law0_r15_in w h) (fun h => (List.mem_append.mp h).elim (fun h => wsL_law0_r16_in w h) (fun h => wsL_law0_r17_in w h))))))))))))))))
theorem wsL_law_in0 : ∀ w ∈ wsL_law0, w ∈ lw_tbl := fun w h => (List.mem_append.mp h).elim (fun h => (List.mem_append.mp h).elim (fun h => (List.mem_append.mp h).elim (fun h => wsL_law_c w h) (fun h => inX0 w h)) (fun h => inX1 w h)) (fun h => absurd h List.not_mem_nil)
theorem wsL_law_in : ∀ w ∈ wsL_law, w ∈ lw_tbl := fun w h => (List.mem_append.mp h).elim (fun h => wsL_law_in0 w h) (fun h => wsL_law_x0 w h)
theorem inlX0 : ∀ w ∈ wsX00, w ∈ wsL_law := fun _ h => List.mem_append_left _ (List.mem_append_left _ (List.mem_append_left _ (List.mem_append_right _ h)))
theorem inlX1 : ∀ w ∈ wsX10, w ∈ wsL_law := fun _ h => List.mem_append_left _ (List.mem_append_left _ (List.mem_append_right _ h))

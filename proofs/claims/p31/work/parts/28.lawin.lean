set_option maxRecDepth 20000 in
theorem wsL_law0_r1_in : ∀ w ∈ wsL_law0_r1, w ∈ lw_tbl := fun w h => ((goodIn_r wsL_law0_r1 [25, 26, 15, 83, 27, 28, 29, 30, 31, 32, 33, 34, 16, 146, 84, 85, 17, 147, 126, 127, 18, 148, 149, 36] (by rfl) (by rfl) : GoodIn lw_tbl wsL_law0_r1) w h).1
set_option maxRecDepth 20000 in
theorem wsL_law0_r2_in : ∀ w ∈ wsL_law0_r2, w ∈ lw_tbl := fun w h => ((goodIn_r wsL_law0_r2 [37, 38, 39, 41, 42, 44, 45, 46, 48, 50, 51, 53, 54, 87, 88, 89, 90, 92, 94, 96, 98, 125, 100, 102] (by rfl) (by rfl) : GoodIn lw_tbl wsL_law0_r2) w h).1
set_option maxRecDepth 20000 in
theorem wsL_law0_r3_in : ∀ w ∈ wsL_law0_r3, w ∈ lw_tbl := fun w h => ((goodIn_r wsL_law0_r3 [103, 129, 130, 131, 132, 133, 134, 163, 164, 14, 165, 166, 167, 159, 160, 161, 162, 57, 168, 169, 170, 300, 301, 303] (by rfl) (by rfl) : GoodIn lw_tbl wsL_law0_r3) w h).1
set_option maxRecDepth 20000 in
theorem wsL_law0_r4_in : ∀ w ∈ wsL_law0_r4, w ∈ lw_tbl := fun w h => ((goodIn_r wsL_law0_r4 [302, 171, 172, 173, 174, 105, 175, 176, 177, 178, 179, 180, 181, 182, 183, 184, 276, 24, 256, 185, 186, 187, 188, 22] (by rfl) (by rfl) : GoodIn lw_tbl wsL_law0_r4) w h).1
set_option maxRecDepth 20000 in
theorem wsL_law0_r5_in : ∀ w ∈ wsL_law0_r5, w ∈ lw_tbl := fun w h => ((goodIn_r wsL_law0_r5 [257, 258, 259, 260, 23, 292, 293, 294, 295, 296, 297, 298, 299, 56, 304, 305, 306, 307, 308, 309, 310, 312, 313, 314] (by rfl) (by rfl) : GoodIn lw_tbl wsL_law0_r5) w h).1
set_option maxRecDepth 20000 in
theorem wsL_law0_r6_in : ∀ w ∈ wsL_law0_r6, w ∈ lw_tbl := fun w h => ((goodIn_r wsL_law0_r6 [315, 104, 316, 318, 1, 319, 91, 97, 43, 320, 321, 322, 323, 324, 325, 326, 327, 328, 329, 330, 331, 332, 334, 2] (by rfl) (by rfl) : GoodIn lw_tbl wsL_law0_r6) w h).1
set_option maxRecDepth 20000 in
theorem wsL_law0_r7_in : ∀ w ∈ wsL_law0_r7, w ∈ lw_tbl := fun w h => ((goodIn_r wsL_law0_r7 [335, 47, 336, 337, 338, 339, 340, 341, 342, 343, 344, 345, 346, 347, 348, 349, 350, 351, 352, 353, 354, 355, 356, 357] (by rfl) (by rfl) : GoodIn lw_tbl wsL_law0_r7) w h).1
set_option maxRecDepth 20000 in
theorem wsL_law0_r8_in : ∀ w ∈ wsL_law0_r8, w ∈ lw_tbl := fun w h => ((goodIn_r wsL_law0_r8 [358, 359, 361, 3, 362, 363, 365, 4, 366, 135, 367, 369, 5, 370, 371, 372, 373, 374, 136, 375, 376, 377, 378, 379] (by rfl) (by rfl) : GoodIn lw_tbl wsL_law0_r8) w h).1
set_option maxRecDepth 20000 in
theorem wsL_law0_r9_in : ∀ w ∈ wsL_law0_r9, w ∈ lw_tbl := fun w h => ((goodIn_r wsL_law0_r9 [380, 381, 382, 383, 385, 6, 386, 387, 389, 7, 390, 391, 393, 8, 394, 395, 397, 9, 398, 399, 401, 10, 402, 403] (by rfl) (by rfl) : GoodIn lw_tbl wsL_law0_r9) w h).1
set_option maxRecDepth 20000 in
theorem wsL_law0_r10_in : ∀ w ∈ wsL_law0_r10, w ∈ lw_tbl := fun w h => ((goodIn_r wsL_law0_r10 [404, 405, 406, 407, 408, 409, 410, 412, 11, 413, 415, 417, 12, 418, 101, 421, 422, 423, 424, 425, 426, 427, 429, 430] (by rfl) (by rfl) : GoodIn lw_tbl wsL_law0_r10) w h).1
set_option maxRecDepth 20000 in
theorem wsL_law0_r11_in : ∀ w ∈ wsL_law0_r11, w ∈ lw_tbl := fun w h => ((goodIn_r wsL_law0_r11 [431, 432, 433, 434, 435, 437, 438, 439, 440, 441, 442, 443, 444, 445, 446, 447, 99, 449, 450, 451, 452, 453, 454, 455] (by rfl) (by rfl) : GoodIn lw_tbl wsL_law0_r11) w h).1
set_option maxRecDepth 20000 in
theorem wsL_law0_r12_in : ∀ w ∈ wsL_law0_r12, w ∈ lw_tbl := fun w h => ((goodIn_r wsL_law0_r12 [456, 457, 458, 459, 460, 461, 462, 463, 464, 465, 466, 467, 468, 469, 470, 471, 472, 473, 474, 475, 476, 477, 478, 479] (by rfl) (by rfl) : GoodIn lw_tbl wsL_law0_r12) w h).1
set_option maxRecDepth 20000 in
theorem wsL_law0_r13_in : ∀ w ∈ wsL_law0_r13, w ∈ lw_tbl := fun w h => ((goodIn_r wsL_law0_r13 [52, 480, 482, 13, 483, 486, 487, 488, 489, 490, 491, 492, 493, 494, 495, 496, 497, 498, 499, 500, 501, 502, 503, 504] (by rfl) (by rfl) : GoodIn lw_tbl wsL_law0_r13) w h).1
set_option maxRecDepth 20000 in
theorem wsL_law0_r14_in : ∀ w ∈ wsL_law0_r14, w ∈ lw_tbl := fun w h => ((goodIn_r wsL_law0_r14 [505, 506, 507, 508, 509, 510, 511, 512, 513, 514, 515, 516, 517, 518, 519, 520, 521, 522, 49, 523, 524, 525, 526, 527] (by rfl) (by rfl) : GoodIn lw_tbl wsL_law0_r14) w h).1
set_option maxRecDepth 20000 in
theorem wsL_law0_r15_in : ∀ w ∈ wsL_law0_r15, w ∈ lw_tbl := fun w h => ((goodIn_r wsL_law0_r15 [528, 529, 530, 531, 532, 533, 534, 535, 536, 55, 537, 538, 539, 540, 541, 542, 543, 40, 544, 545, 546, 547, 548, 549] (by rfl) (by rfl) : GoodIn lw_tbl wsL_law0_r15) w h).1
set_option maxRecDepth 20000 in
theorem wsL_law0_r16_in : ∀ w ∈ wsL_law0_r16, w ∈ lw_tbl := fun w h => ((goodIn_r wsL_law0_r16 [550, 553, 554, 555, 556, 557, 558, 559, 560, 561, 562, 563, 564, 565, 566, 567, 568, 569, 570, 571, 572, 573, 574, 575] (by rfl) (by rfl) : GoodIn lw_tbl wsL_law0_r16) w h).1
set_option maxRecDepth 20000 in
theorem wsL_law0_r17_in : ∀ w ∈ wsL_law0_r17, w ∈ lw_tbl := fun w h => ((goodIn_r wsL_law0_r17 [576, 577, 578, 579, 580, 581, 582, 583, 584, 585, 586, 587, 588, 589, 590, 591, 592, 593, 594, 93, 595, 596, 597, 598] (by rfl) (by rfl) : GoodIn lw_tbl wsL_law0_r17) w h).1
set_option maxRecDepth 20000 in
theorem wsL_law0_r18_in : ∀ w ∈ wsL_law0_r18, w ∈ lw_tbl := fun w h => ((goodIn_r wsL_law0_r18 [599, 600, 601, 602, 95, 603, 604, 605, 606, 607, 608, 609, 610, 611, 612, 613, 614, 615, 616, 617, 618, 619, 620, 621] (by rfl) (by rfl) : GoodIn lw_tbl wsL_law0_r18) w h).1
set_option maxRecDepth 20000 in
theorem wsL_law0_r19_in : ∀ w ∈ wsL_law0_r19, w ∈ lw_tbl := fun w h => ((goodIn_r wsL_law0_r19 [622, 623, 624] (by rfl) (by rfl) : GoodIn lw_tbl wsL_law0_r19) w h).1
theorem wsX30_inT : ∀ w ∈ wsX30, w ∈ lw_tbl := by decide +kernel
theorem wsX00_inT : ∀ w ∈ wsX00, w ∈ lw_tbl := by decide +kernel
theorem wsX20_inT : ∀ w ∈ wsX20, w ∈ lw_tbl := by decide +kernel
theorem wsX10_inT : ∀ w ∈ wsX10, w ∈ lw_tbl := by decide +kernel
theorem wsL_law_chain : ∀ w, w ∈ (wsL_law0_r1 ++ (wsL_law0_r2 ++ (wsL_law0_r3 ++ (wsL_law0_r4 ++ (wsL_law0_r5 ++ (wsL_law0_r6 ++ (wsL_law0_r7 ++ (wsL_law0_r8 ++ (wsL_law0_r9 ++ (wsL_law0_r10 ++ (wsL_law0_r11 ++ (wsL_law0_r12 ++ (wsL_law0_r13 ++ (wsL_law0_r14 ++ (wsL_law0_r15 ++ (wsL_law0_r16 ++ (wsL_law0_r17 ++ (wsL_law0_r18 ++ (wsL_law0_r19))))))))))))))))))) → w ∈ lw_tbl := fun w => fun h => (List.mem_append.mp h).elim (wsL_law0_r1_in w) (fun h => (List.mem_append.mp h).elim (wsL_law0_r2_in w) (fun h => (List.mem_append.mp h).elim (wsL_law0_r3_in w) (fun h => (List.mem_append.mp h).elim (wsL_law0_r4_in w) (fun h => (List.mem_append.mp h).elim (wsL_law0_r5_in w) (fun h => (List.mem_append.mp h).elim (wsL_law0_r6_in w) (fun h => (List.mem_append.mp h).elim (wsL_law0_r7_in w) (fun h => (List.mem_append.mp h).elim (wsL_law0_r8_in w) (fun h => (List.mem_append.mp h).elim (wsL_law0_r9_in w) (fun h => (List.mem_append.mp h).elim (wsL_law0_r10_in w) (fun h => (List.mem_append.mp h).elim (wsL_law0_r11_in w) (fun h => (List.mem_append.mp h).elim (wsL_law0_r12_in w) (fun h => (List.mem_append.mp h).elim (wsL_law0_r13_in w) (fun h => (List.mem_append.mp h).elim (wsL_law0_r14_in w) (fun h => (List.mem_append.mp h).elim (wsL_law0_r15_in w) (fun h => (List.mem_append.mp h).elim (wsL_law0_r16_in w) (fun h => (List.mem_append.mp h).elim (wsL_law0_r17_in w) (fun h => (List.mem_append.mp h).elim (wsL_law0_r18_in w) (fun h => wsL_law0_r19_in w h))))))))))))))))))
theorem wsL_law_in0 : ∀ w ∈ wsL_law0, w ∈ lw_tbl := fun w h => (List.mem_append.mp h).elim (fun h => (List.mem_append.mp h).elim (fun h => (List.mem_append.mp h).elim (fun h => (List.mem_append.mp h).elim (fun h => (List.mem_append.mp h).elim (fun h => wsL_law_chain w h) (wsX30_inT w)) (wsX00_inT w)) (wsX20_inT w)) (wsX10_inT w)) (fun h => nomatch h)
theorem wsL_law_in : ∀ w ∈ wsL_law, w ∈ lw_tbl := fun w h => (List.mem_append.mp h).elim (fun h => (List.mem_append.mp h).elim (fun h => (List.mem_append.mp h).elim (fun h => wsL_law_in0 w h) (fun h => wsL_law_x0 w h)) (fun h => wsL_law_x1 w h)) (fun h => wsL_law_x2 w h)
theorem inlX0 : ∀ w ∈ wsX00, w ∈ wsL_law := fun _ h => List.mem_append_left _ (List.mem_append_left _ (List.mem_append_left _ (List.mem_append_left _ (List.mem_append_left _ (List.mem_append_left _ (List.mem_append_right _ h))))))
theorem inX0 : ∀ w ∈ wsX00, w ∈ lw_tbl := fun w h => wsL_law_in w (inlX0 w h)
theorem inlX1 : ∀ w ∈ wsX10, w ∈ wsL_law := fun _ h => List.mem_append_left _ (List.mem_append_left _ (List.mem_append_left _ (List.mem_append_left _ (List.mem_append_right _ h))))
theorem inX1 : ∀ w ∈ wsX10, w ∈ lw_tbl := fun w h => wsL_law_in w (inlX1 w h)
theorem inlX2 : ∀ w ∈ wsX20, w ∈ wsL_law := fun _ h => List.mem_append_left _ (List.mem_append_left _ (List.mem_append_left _ (List.mem_append_left _ (List.mem_append_left _ (List.mem_append_right _ h)))))
theorem inX2 : ∀ w ∈ wsX20, w ∈ lw_tbl := fun w h => wsL_law_in w (inlX2 w h)
theorem inlX3 : ∀ w ∈ wsX30, w ∈ wsL_law := fun _ h => List.mem_append_left _ (List.mem_append_left _ (List.mem_append_left _ (List.mem_append_left _ (List.mem_append_left _ (List.mem_append_left _ (List.mem_append_left _ (List.mem_append_right _ h)))))))
theorem inX3 : ∀ w ∈ wsX30, w ∈ lw_tbl := fun w h => wsL_law_in w (inlX3 w h)
theorem inX4 : ∀ w ∈ wsX40, w ∈ lw_tbl := by decide +kernel

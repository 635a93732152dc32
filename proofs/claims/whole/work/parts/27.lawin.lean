set_option maxRecDepth 20000 in
theorem wsL_law0_r1_in : ∀ w ∈ wsL_law0_r1, w ∈ lw_tbl := fun w h => ((goodIn_r wsL_law0_r1 [43, 44, 32, 619, 620, 36, 890, 45, 46, 47, 48, 49, 50, 51, 52, 33, 164, 102, 103, 34, 165, 144, 145, 35] (by rfl) (by rfl) : GoodIn lw_tbl wsL_law0_r1) w h).1
set_option maxRecDepth 20000 in
theorem wsL_law0_r2_in : ∀ w ∈ wsL_law0_r2, w ∈ lw_tbl := fun w h => ((goodIn_r wsL_law0_r2 [166, 167, 54, 55, 56, 101, 57, 59, 60, 62, 63, 64, 66, 68, 69, 71, 72, 105, 106, 107, 108, 110, 112, 114] (by rfl) (by rfl) : GoodIn lw_tbl wsL_law0_r2) w h).1
set_option maxRecDepth 20000 in
theorem wsL_law0_r3_in : ∀ w ∈ wsL_law0_r3, w ∈ lw_tbl := fun w h => ((goodIn_r wsL_law0_r3 [116, 143, 118, 120, 121, 147, 148, 149, 150, 151, 152, 621, 622, 623, 624, 628, 629, 630, 631, 632, 633, 634, 635, 636] (by rfl) (by rfl) : GoodIn lw_tbl wsL_law0_r3) w h).1
set_option maxRecDepth 20000 in
theorem wsL_law0_r4_in : ∀ w ∈ wsL_law0_r4, w ∈ lw_tbl := fun w h => ((goodIn_r wsL_law0_r4 [637, 638, 639, 641, 642, 643, 644, 645, 646, 647, 648, 217, 218, 31, 219, 220, 221, 222, 223, 224, 225, 226, 318, 42] (by rfl) (by rfl) : GoodIn lw_tbl wsL_law0_r4) w h).1
set_option maxRecDepth 20000 in
theorem wsL_law0_r5_in : ∀ w ∈ wsL_law0_r5, w ∈ lw_tbl := fun w h => ((goodIn_r wsL_law0_r5 [298, 75, 227, 228, 229, 230, 40, 299, 300, 301, 302, 41, 334, 335, 336, 337, 338, 339, 340, 341, 74, 702, 703, 704] (by rfl) (by rfl) : GoodIn lw_tbl wsL_law0_r5) w h).1
set_option maxRecDepth 20000 in
theorem wsL_law0_r6_in : ∀ w ∈ wsL_law0_r6, w ∈ lw_tbl := fun w h => ((goodIn_r wsL_law0_r6 [705, 706, 627, 626, 707, 708, 709, 710, 711, 712, 713, 715, 14, 716, 625, 698, 699, 700, 701, 342, 343, 344, 345, 346] (by rfl) (by rfl) : GoodIn lw_tbl wsL_law0_r6) w h).1
set_option maxRecDepth 20000 in
theorem wsL_law0_r7_in : ∀ w ∈ wsL_law0_r7, w ∈ lw_tbl := fun w h => ((goodIn_r wsL_law0_r7 [347, 348, 123, 350, 351, 352, 353, 122, 354, 356, 1, 357, 109, 115, 61, 358, 359, 360, 361, 362, 363, 364, 365, 366] (by rfl) (by rfl) : GoodIn lw_tbl wsL_law0_r7) w h).1
set_option maxRecDepth 20000 in
theorem wsL_law0_r8_in : ∀ w ∈ wsL_law0_r8, w ∈ lw_tbl := fun w h => ((goodIn_r wsL_law0_r8 [367, 368, 369, 370, 372, 2, 373, 65, 374, 375, 376, 377, 378, 379, 380, 381, 382, 383, 384, 385, 386, 387, 388, 389] (by rfl) (by rfl) : GoodIn lw_tbl wsL_law0_r8) w h).1
set_option maxRecDepth 20000 in
theorem wsL_law0_r9_in : ∀ w ∈ wsL_law0_r9, w ∈ lw_tbl := fun w h => ((goodIn_r wsL_law0_r9 [390, 391, 392, 393, 394, 395, 396, 397, 399, 3, 400, 401, 403, 4, 404, 153, 405, 407, 5, 408, 409, 410, 411, 412] (by rfl) (by rfl) : GoodIn lw_tbl wsL_law0_r9) w h).1
set_option maxRecDepth 20000 in
theorem wsL_law0_r10_in : ∀ w ∈ wsL_law0_r10, w ∈ lw_tbl := fun w h => ((goodIn_r wsL_law0_r10 [154, 413, 414, 415, 416, 417, 418, 419, 420, 421, 423, 6, 424, 425, 427, 7, 428, 429, 431, 8, 432, 433, 435, 9] (by rfl) (by rfl) : GoodIn lw_tbl wsL_law0_r10) w h).1
set_option maxRecDepth 20000 in
theorem wsL_law0_r11_in : ∀ w ∈ wsL_law0_r11, w ∈ lw_tbl := fun w h => ((goodIn_r wsL_law0_r11 [436, 437, 439, 10, 440, 717, 718, 719, 720, 640, 721, 723, 15, 724, 725, 727, 16, 728, 729, 731, 17, 732, 733, 735] (by rfl) (by rfl) : GoodIn lw_tbl wsL_law0_r11) w h).1
set_option maxRecDepth 20000 in
theorem wsL_law0_r12_in : ∀ w ∈ wsL_law0_r12, w ∈ lw_tbl := fun w h => ((goodIn_r wsL_law0_r12 [18, 736, 737, 739, 19, 740, 741, 742, 744, 20, 745, 746, 748, 21, 749, 750, 752, 22, 753, 754, 756, 23, 757, 758] (by rfl) (by rfl) : GoodIn lw_tbl wsL_law0_r12) w h).1
set_option maxRecDepth 20000 in
theorem wsL_law0_r13_in : ∀ w ∈ wsL_law0_r13, w ∈ lw_tbl := fun w h => ((goodIn_r wsL_law0_r13 [760, 24, 761, 441, 442, 443, 444, 445, 446, 447, 448, 450, 11, 451, 453, 455, 12, 456, 119, 762, 763, 764, 765, 766] (by rfl) (by rfl) : GoodIn lw_tbl wsL_law0_r13) w h).1
set_option maxRecDepth 20000 in
theorem wsL_law0_r14_in : ∀ w ∈ wsL_law0_r14, w ∈ lw_tbl := fun w h => ((goodIn_r wsL_law0_r14 [768, 25, 769, 459, 460, 461, 462, 463, 464, 465, 770, 771, 772, 773, 467, 468, 469, 470, 471, 472, 473, 475, 476, 477] (by rfl) (by rfl) : GoodIn lw_tbl wsL_law0_r14) w h).1
set_option maxRecDepth 20000 in
theorem wsL_law0_r15_in : ∀ w ∈ wsL_law0_r15, w ∈ lw_tbl := fun w h => ((goodIn_r wsL_law0_r15 [478, 774, 775, 776, 777, 479, 480, 481, 482, 483, 484, 485, 117, 487, 488, 489, 490, 491, 492, 493, 494, 495, 496, 497] (by rfl) (by rfl) : GoodIn lw_tbl wsL_law0_r15) w h).1
set_option maxRecDepth 20000 in
theorem wsL_law0_r16_in : ∀ w ∈ wsL_law0_r16, w ∈ lw_tbl := fun w h => ((goodIn_r wsL_law0_r16 [498, 499, 500, 501, 502, 503, 504, 505, 506, 507, 508, 509, 510, 778, 779, 780, 781, 511, 512, 513, 514, 515, 516, 517] (by rfl) (by rfl) : GoodIn lw_tbl wsL_law0_r16) w h).1
set_option maxRecDepth 20000 in
theorem wsL_law0_r17_in : ∀ w ∈ wsL_law0_r17, w ∈ lw_tbl := fun w h => ((goodIn_r wsL_law0_r17 [70, 518, 520, 13, 521, 524, 782, 783, 784, 785, 525, 526, 527, 528, 529, 530, 531, 786, 787, 788, 789, 177, 178, 179] (by rfl) (by rfl) : GoodIn lw_tbl wsL_law0_r17) w h).1
set_option maxRecDepth 20000 in
theorem wsL_law0_r18_in : ∀ w ∈ wsL_law0_r18, w ∈ lw_tbl := fun w h => ((goodIn_r wsL_law0_r18 [180, 790, 791, 792, 793, 794, 796, 26, 797, 532, 533, 534, 535, 536, 537, 538, 539, 798, 799, 800, 801, 802, 804, 27] (by rfl) (by rfl) : GoodIn lw_tbl wsL_law0_r18) w h).1
set_option maxRecDepth 20000 in
theorem wsL_law0_r19_in : ∀ w ∈ wsL_law0_r19, w ∈ lw_tbl := fun w h => ((goodIn_r wsL_law0_r19 [805, 540, 541, 542, 543, 544, 545, 546, 806, 807, 808, 809, 547, 548, 549, 550, 551, 552, 553, 810, 811, 812, 813, 554] (by rfl) (by rfl) : GoodIn lw_tbl wsL_law0_r19) w h).1
set_option maxRecDepth 20000 in
theorem wsL_law0_r20_in : ∀ w ∈ wsL_law0_r20, w ∈ lw_tbl := fun w h => ((goodIn_r wsL_law0_r20 [555, 556, 557, 558, 559, 560, 67, 814, 815, 816, 817, 561, 562, 563, 564, 565, 566, 567, 818, 819, 820, 821, 568, 569] (by rfl) (by rfl) : GoodIn lw_tbl wsL_law0_r20) w h).1
set_option maxRecDepth 20000 in
theorem wsL_law0_r21_in : ∀ w ∈ wsL_law0_r21, w ∈ lw_tbl := fun w h => ((goodIn_r wsL_law0_r21 [570, 571, 572, 573, 574, 73, 822, 823, 824, 825, 575, 576, 577, 578, 579, 580, 581, 58, 826, 827, 828, 829, 582, 583] (by rfl) (by rfl) : GoodIn lw_tbl wsL_law0_r21) w h).1
set_option maxRecDepth 20000 in
theorem wsL_law0_r22_in : ∀ w ∈ wsL_law0_r22, w ∈ lw_tbl := fun w h => ((goodIn_r wsL_law0_r22 [584, 585, 586, 587, 588, 830, 831, 832, 833, 181, 182, 183, 184, 834, 835, 836, 837, 591, 592, 593, 594, 595, 596, 597] (by rfl) (by rfl) : GoodIn lw_tbl wsL_law0_r22) w h).1
set_option maxRecDepth 20000 in
theorem wsL_law0_r23_in : ∀ w ∈ wsL_law0_r23, w ∈ lw_tbl := fun w h => ((goodIn_r wsL_law0_r23 [838, 839, 840, 841, 842, 844, 28, 845, 598, 599, 600, 601, 602, 603, 604, 846, 847, 848, 849, 605, 606, 607, 608, 609] (by rfl) (by rfl) : GoodIn lw_tbl wsL_law0_r23) w h).1
set_option maxRecDepth 20000 in
theorem wsL_law0_r24_in : ∀ w ∈ wsL_law0_r24, w ∈ lw_tbl := fun w h => ((goodIn_r wsL_law0_r24 [610, 611, 850, 851, 852, 853, 612, 613, 614, 615, 616, 617, 618, 854, 855, 856, 857, 185, 186, 187, 188, 858, 859, 860] (by rfl) (by rfl) : GoodIn lw_tbl wsL_law0_r24) w h).1
set_option maxRecDepth 20000 in
theorem wsL_law0_r25_in : ∀ w ∈ wsL_law0_r25, w ∈ lw_tbl := fun w h => ((goodIn_r wsL_law0_r25 [861, 189, 190, 191, 192, 111, 193, 194, 195, 196, 862, 863, 864, 865, 866, 868, 29, 869, 197, 198, 199, 200, 113, 870] (by rfl) (by rfl) : GoodIn lw_tbl wsL_law0_r25) w h).1
set_option maxRecDepth 20000 in
theorem wsL_law0_r26_in : ∀ w ∈ wsL_law0_r26, w ∈ lw_tbl := fun w h => ((goodIn_r wsL_law0_r26 [871, 872, 873, 874, 876, 30, 877, 201, 202, 203, 204, 878, 879, 880, 881, 205, 206, 207, 208, 882, 883, 884, 885, 209] (by rfl) (by rfl) : GoodIn lw_tbl wsL_law0_r26) w h).1
set_option maxRecDepth 20000 in
theorem wsL_law0_r27_in : ∀ w ∈ wsL_law0_r27, w ∈ lw_tbl := fun w h => ((goodIn_r wsL_law0_r27 [210, 211, 212, 213, 214, 215, 216, 886, 887, 888, 889] (by rfl) (by rfl) : GoodIn lw_tbl wsL_law0_r27) w h).1
theorem wsX30_inT : ∀ w ∈ wsX30, w ∈ lw_tbl := by decide +kernel
theorem wsX40_inT : ∀ w ∈ wsX40, w ∈ lw_tbl := by decide +kernel
theorem wsX00_inT : ∀ w ∈ wsX00, w ∈ lw_tbl := by decide +kernel
theorem wsX20_inT : ∀ w ∈ wsX20, w ∈ lw_tbl := by decide +kernel
theorem wsX10_inT : ∀ w ∈ wsX10, w ∈ lw_tbl := by decide +kernel
theorem wsL_law_chain : ∀ w, w ∈ (wsL_law0_r1 ++ (wsL_law0_r2 ++ (wsL_law0_r3 ++ (wsL_law0_r4 ++ (wsL_law0_r5 ++ (wsL_law0_r6 ++ (wsL_law0_r7 ++ (wsL_law0_r8 ++ (wsL_law0_r9 ++ (wsL_law0_r10 ++ (wsL_law0_r11 ++ (wsL_law0_r12 ++ (wsL_law0_r13 ++ (wsL_law0_r14 ++ (wsL_law0_r15 ++ (wsL_law0_r16 ++ (wsL_law0_r17 ++ (wsL_law0_r18 ++ (wsL_law0_r19 ++ (wsL_law0_r20 ++ (wsL_law0_r21 ++ (wsL_law0_r22 ++ (wsL_law0_r23 ++ (wsL_law0_r24 ++ (wsL_law0_r25 ++ (wsL_law0_r26 ++ (wsL_law0_r27))))))))))))))))))))))))))) → w ∈ lw_tbl := fun w => fun h => (List.mem_append.mp h).elim (wsL_law0_r1_in w) (fun h => (List.mem_append.mp h).elim (wsL_law0_r2_in w) (fun h => (List.mem_append.mp h).elim (wsL_law0_r3_in w) (fun h => (List.mem_append.mp h).elim (wsL_law0_r4_in w) (fun h => (List.mem_append.mp h).elim (wsL_law0_r5_in w) (fun h => (List.mem_append.mp h).elim (wsL_law0_r6_in w) (fun h => (List.mem_append.mp h).elim (wsL_law0_r7_in w) (fun h => (List.mem_append.mp h).elim (wsL_law0_r8_in w) (fun h => (List.mem_append.mp h).elim (wsL_law0_r9_in w) (fun h => (List.mem_append.mp h).elim (wsL_law0_r10_in w) (fun h => (List.mem_append.mp h).elim (wsL_law0_r11_in w) (fun h => (List.mem_append.mp h).elim (wsL_law0_r12_in w) (fun h => (List.mem_append.mp h).elim (wsL_law0_r13_in w) (fun h => (List.mem_append.mp h).elim (wsL_law0_r14_in w) (fun h => (List.mem_append.mp h).elim (wsL_law0_r15_in w) (fun h => (List.mem_append.mp h).elim (wsL_law0_r16_in w) (fun h => (List.mem_append.mp h).elim (wsL_law0_r17_in w) (fun h => (List.mem_append.mp h).elim (wsL_law0_r18_in w) (fun h => (List.mem_append.mp h).elim (wsL_law0_r19_in w) (fun h => (List.mem_append.mp h).elim (wsL_law0_r20_in w) (fun h => (List.mem_append.mp h).elim (wsL_law0_r21_in w) (fun h => (List.mem_append.mp h).elim (wsL_law0_r22_in w) (fun h => (List.mem_append.mp h).elim (wsL_law0_r23_in w) (fun h => (List.mem_append.mp h).elim (wsL_law0_r24_in w) (fun h => (List.mem_append.mp h).elim (wsL_law0_r25_in w) (fun h => (List.mem_append.mp h).elim (wsL_law0_r26_in w) (fun h => wsL_law0_r27_in w h))))))))))))))))))))))))))
theorem wsL_law_in0 : ∀ w ∈ wsL_law0, w ∈ lw_tbl := fun w h => (List.mem_append.mp h).elim (fun h => (List.mem_append.mp h).elim (fun h => (List.mem_append.mp h).elim (fun h => (List.mem_append.mp h).elim (fun h => (List.mem_append.mp h).elim (fun h => (List.mem_append.mp h).elim (fun h => wsL_law_chain w h) (wsX30_inT w)) (wsX40_inT w)) (wsX00_inT w)) (wsX20_inT w)) (wsX10_inT w)) (fun h => nomatch h)
theorem wsL_law_x0 : ∀ w ∈ (vx_atS RX3 50 "java/lang/IllegalStateException" ["java/lang/RuntimeException", "java/lang/Exception"]).filter goodWord, w ∈ lw_tbl := by decide +kernel
theorem wsL_law_x1 : ∀ w ∈ (vx_atS RX3 149 "java/lang/IndexOutOfBoundsException" ["java/lang/RuntimeException", "java/lang/Exception"]).filter goodWord, w ∈ lw_tbl := by decide +kernel
theorem wsL_law_x2 : ∀ w ∈ (vx_atS RX3 154 "java/lang/IllegalArgumentException" ["java/lang/RuntimeException", "java/lang/Exception"]).filter goodWord, w ∈ lw_tbl := by decide +kernel
theorem wsL_law_in : ∀ w ∈ wsL_law, w ∈ lw_tbl := fun w h => (List.mem_append.mp h).elim (fun h => (List.mem_append.mp h).elim (fun h => (List.mem_append.mp h).elim (fun h => wsL_law_in0 w h) (fun h => wsL_law_x0 w h)) (fun h => wsL_law_x1 w h)) (fun h => wsL_law_x2 w h)
theorem inlX0 : ∀ w ∈ wsX00, w ∈ wsL_law := fun _ h => List.mem_append_left _ (List.mem_append_left _ (List.mem_append_left _ (List.mem_append_left _ (List.mem_append_left _ (List.mem_append_left _ (List.mem_append_right _ h))))))
theorem inX0 : ∀ w ∈ wsX00, w ∈ lw_tbl := fun w h => wsL_law_in w (inlX0 w h)
theorem inlX1 : ∀ w ∈ wsX10, w ∈ wsL_law := fun _ h => List.mem_append_left _ (List.mem_append_left _ (List.mem_append_left _ (List.mem_append_left _ (List.mem_append_right _ h))))
theorem inX1 : ∀ w ∈ wsX10, w ∈ lw_tbl := fun w h => wsL_law_in w (inlX1 w h)
theorem inlX2 : ∀ w ∈ wsX20, w ∈ wsL_law := fun _ h => List.mem_append_left _ (List.mem_append_left _ (List.mem_append_left _ (List.mem_append_left _ (List.mem_append_left _ (List.mem_append_right _ h)))))
theorem inX2 : ∀ w ∈ wsX20, w ∈ lw_tbl := fun w h => wsL_law_in w (inlX2 w h)
theorem inlX3 : ∀ w ∈ wsX30, w ∈ wsL_law := fun _ h => List.mem_append_left _ (List.mem_append_left _ (List.mem_append_left _ (List.mem_append_left _ (List.mem_append_left _ (List.mem_append_left _ (List.mem_append_left _ (List.mem_append_left _ (List.mem_append_right _ h))))))))
theorem inX3 : ∀ w ∈ wsX30, w ∈ lw_tbl := fun w h => wsL_law_in w (inlX3 w h)
theorem inlX4 : ∀ w ∈ wsX40, w ∈ wsL_law := fun _ h => List.mem_append_left _ (List.mem_append_left _ (List.mem_append_left _ (List.mem_append_left _ (List.mem_append_left _ (List.mem_append_left _ (List.mem_append_left _ (List.mem_append_right _ h)))))))
theorem inX4 : ∀ w ∈ wsX40, w ∈ lw_tbl := fun w h => wsL_law_in w (inlX4 w h)

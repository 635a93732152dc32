set_option maxRecDepth 20000 in
theorem ggL_refuses_X3_receipts : GoodIn wsL_refuses wsX3_receipts := goodIn_r _ [9, 10, 11, 357, 358, 359, 360, 361, 362, 363, 364, 365, 366, 367, 368, 369] (by rfl) (by rfl)
set_option maxRecDepth 20000 in
theorem gL_refuses_X3_receipts : GoodIn wsL_refuses (wsV RL 86 RX3 yX3_receipts wsX3_receipts) := goodIn_app (goodIn_r _ [5, 6, 7, 8] (by rfl) (by rfl)) ggL_refuses_X3_receipts
set_option maxRecDepth 20000 in
theorem ggL_refuses_X3_bills : GoodIn wsL_refuses wsX3_bills := goodIn_r _ [15, 16, 17, 357, 358, 359, 360, 370, 371, 372, 373, 374, 375, 376, 377, 378, 379, 380, 381] (by rfl) (by rfl)
set_option maxRecDepth 20000 in
theorem gL_refuses_X3_bills : GoodIn wsL_refuses (wsV RL 90 RX3 yX3_bills wsX3_bills) := goodIn_app (goodIn_r _ [12, 13, 14, 8] (by rfl) (by rfl)) ggL_refuses_X3_bills
set_option maxRecDepth 20000 in
theorem ggL_refuses_L_bills : GoodIn wsL_refuses wsL_bills := goodIn_ca (goodIn_ca (goodIn_ca (goodIn_r _ [21, 22, 23, 24, 1, 2, 4, 25, 26, 27, 8, 28, 29, 30, 31, 16, 17, 32, 33, 34, 35, 36, 37, 38, 39, 40, 41, 42, 43, 44, 45, 46, 47, 48, 49, 50, 51, 52, 53, 54, 55, 56, 57, 58, 59, 357, 358, 359, 360, 370, 371, 372, 373, 374, 375, 376, 377, 378, 379, 380, 381] (by rfl) (by rfl)) (goodIn_sub (fun _ h => List.mem_cons_of_mem _ (List.mem_append_left _ (List.mem_append_left _ (List.mem_append_right _ h)))) (by rfl))) (goodIn_sub (fun _ h => List.mem_cons_of_mem _ (List.mem_append_left _ (List.mem_append_right _ h))) (by rfl))) (goodIn_sub (fun _ h => List.mem_cons_of_mem _ (List.mem_append_right _ h)) (by rfl))
set_option maxRecDepth 20000 in
theorem gL_refuses_L_bills : GoodIn wsL_refuses (va_wsS RL 93 yL_bills wsL_bills) := goodIn_app (goodIn_r _ [18, 19, 20] (by rfl) (by rfl)) ggL_refuses_L_bills
set_option maxRecDepth 20000 in
theorem ggL_refuses_L_receives : GoodIn wsL_refuses wsL_receives := goodIn_ca (goodIn_ca (goodIn_ca (goodIn_r _ [62, 22, 23, 24, 1, 2, 4, 63, 64, 65, 8, 66, 29, 30, 31, 10, 11, 33, 34, 35, 36, 37, 38, 39, 40, 41, 42, 67, 68, 69, 70, 71, 72, 73, 74, 75, 76, 77, 78, 79, 80, 16, 17, 81, 82, 83, 84, 85, 50, 86, 52, 55, 53, 87, 88, 89, 90, 54, 91, 92, 93, 94, 95, 96, 97, 98, 99, 100, 101, 102, 32, 103, 104, 105, 106, 107, 56, 108, 109, 110, 111, 57, 112, 113, 114, 115, 58, 116, 117, 118, 119, 120, 121, 122, 123, 124, 125, 126, 127, 128, 129, 59, 130, 131, 132, 133, 134, 135, 136, 137, 138, 139, 140, 141, 142, 143, 144, 145, 146, 147, 148, 149, 150, 151, 152, 153, 154, 155, 156, 157, 158, 159, 160, 161, 162, 163, 164, 165, 166, 167, 168, 169, 170, 171, 172, 173, 174, 175, 176, 177, 178, 179, 180, 357, 358, 359, 360, 361, 362, 363, 364, 365, 366, 367, 368, 369, 370, 371, 372, 373, 374, 375, 376, 377, 378, 379, 380, 381, 382, 383, 384, 385] (by rfl) (by rfl)) (goodIn_sub (fun _ h => List.mem_cons_of_mem _ (List.mem_append_left _ (List.mem_append_left _ (List.mem_append_right _ h)))) (by rfl))) (goodIn_sub (fun _ h => List.mem_cons_of_mem _ (List.mem_append_left _ (List.mem_append_right _ h))) (by rfl))) (goodIn_sub (fun _ h => List.mem_cons_of_mem _ (List.mem_append_right _ h)) (by rfl))
set_option maxRecDepth 20000 in
theorem gL_refuses_L_receives : GoodIn wsL_refuses (va_wsS RL 99 yL_receives wsL_receives) := goodIn_app (goodIn_r _ [60, 61, 20] (by rfl) (by rfl)) ggL_refuses_L_receives
set_option maxRecDepth 20000 in
theorem ggL_refuses_L_assigns : GoodIn wsL_refuses wsL_assigns := goodIn_ca (goodIn_ca (goodIn_r _ [183, 22, 24, 1, 4, 184, 185, 186, 8, 187, 29, 30, 10, 80, 81, 188, 189, 190, 191, 36, 37, 11, 33, 34, 35, 192, 193, 194, 195, 196, 130, 131, 132, 133, 134, 135, 136, 137, 138, 139, 16, 17, 140, 141, 142, 143, 32, 144, 145, 146, 147, 148, 149, 150, 95, 96, 97, 50, 98, 53, 87, 88, 89, 90, 54, 91, 92, 93, 94, 104, 105, 106, 107, 56, 108, 109, 110, 111, 57, 151, 152, 153, 154, 155, 156, 157, 158, 159, 160, 161, 162, 163, 164, 165, 166, 167, 168, 169, 170, 171, 172, 173, 174, 175, 176, 99, 100, 101, 102, 103, 112, 113, 114, 115, 58, 116, 117, 118, 70, 119, 120, 121, 122, 75, 123, 124, 125, 177, 178, 179, 180, 357, 358, 359, 360, 361, 362, 363, 364, 365, 366, 367, 368, 369, 382, 383, 384, 385, 370, 371, 372, 373, 374, 375, 376, 377, 378, 379, 380, 381] (by rfl) (by rfl)) (goodIn_sub (fun _ h => List.mem_cons_of_mem _ (List.mem_append_left _ (List.mem_append_left _ (List.mem_append_right _ h)))) (by rfl))) (goodIn_sub (fun _ h => List.mem_cons_of_mem _ (List.mem_append_left _ (List.mem_append_right _ h))) (by rfl))
set_option maxRecDepth 20000 in
theorem gL_refuses_L_assigns : GoodIn wsL_refuses (va_wsS RL 103 yL_assigns wsL_assigns) := goodIn_app (goodIn_r _ [181, 182, 20] (by rfl) (by rfl)) ggL_refuses_L_assigns
set_option maxRecDepth 20000 in
theorem ggL_refuses_L_applies : GoodIn wsL_refuses wsL_applies := goodIn_ca (goodIn_ca (goodIn_r _ [199, 22, 24, 1, 4, 200, 201, 202, 8, 203, 29, 30, 10, 80, 81, 188, 189, 190, 191, 36, 37, 11, 192, 193, 194, 195, 196, 130, 131, 132, 133, 134, 135, 136, 137, 138, 139, 16, 17, 140, 141, 142, 143, 32, 144, 145, 146, 147, 148, 149, 150, 95, 96, 97, 50, 98, 53, 87, 88, 89, 90, 54, 91, 92, 93, 94, 104, 105, 106, 107, 56, 108, 109, 110, 111, 57, 151, 152, 153, 154, 155, 156, 157, 158, 159, 160, 161, 162, 163, 164, 165, 166, 167, 168, 169, 170, 171, 172, 173, 174, 175, 176, 99, 100, 101, 102, 103, 112, 113, 114, 115, 58, 116, 117, 118, 70, 119, 120, 121, 122, 75, 123, 124, 125, 177, 178, 179, 180, 357, 358, 359, 360, 361, 362, 363, 364, 365, 366, 367, 368, 369, 382, 383, 384, 385, 370, 371, 372, 373, 374, 375, 376, 377, 378, 379, 380, 381] (by rfl) (by rfl)) (goodIn_sub (fun _ h => List.mem_cons_of_mem _ (List.mem_append_left _ (List.mem_append_left _ (List.mem_append_right _ h)))) (by rfl))) (goodIn_sub (fun _ h => List.mem_cons_of_mem _ (List.mem_append_left _ (List.mem_append_right _ h))) (by rfl))
set_option maxRecDepth 20000 in
theorem gL_refuses_L_applies : GoodIn wsL_refuses (va_wsS RL 107 yL_applies wsL_applies) := goodIn_app (goodIn_r _ [197, 198, 20] (by rfl) (by rfl)) ggL_refuses_L_applies
set_option maxRecDepth 20000 in
theorem ggL_refuses_L_paysBack : GoodIn wsL_refuses wsL_paysBack := goodIn_ca (goodIn_ca (goodIn_r _ [206, 22, 24, 1, 4, 207, 208, 209, 8, 210, 29, 30, 10, 81, 188, 189, 190, 191, 36, 37, 11, 192, 193, 194, 195, 196, 211, 212, 213, 70, 214, 75, 215, 357, 358, 359, 360, 361, 362, 363, 364, 365, 366, 367, 368, 369] (by rfl) (by rfl)) (goodIn_sub (fun _ h => List.mem_cons_of_mem _ (List.mem_append_left _ (List.mem_append_left _ (List.mem_append_right _ h)))) (by rfl))) (goodIn_sub (fun _ h => List.mem_cons_of_mem _ (List.mem_append_left _ (List.mem_append_right _ h))) (by rfl))
set_option maxRecDepth 20000 in
theorem gL_refuses_L_paysBack : GoodIn wsL_refuses (va_wsS RL 111 yL_paysBack wsL_paysBack) := goodIn_app (goodIn_r _ [204, 205, 20] (by rfl) (by rfl)) ggL_refuses_L_paysBack
set_option maxRecDepth 20000 in
theorem ggL_refuses_L_bounces : GoodIn wsL_refuses wsL_bounces := goodIn_ca (goodIn_ca (goodIn_r _ [218, 22, 24, 1, 4, 219, 220, 221, 8, 222, 29, 30, 10, 223, 16, 17, 188, 189, 190, 191, 36, 37, 11, 192, 193, 194, 195, 196, 224, 225, 226, 70, 227, 121, 123, 124, 125, 228, 229, 230, 231, 120, 232, 233, 234, 50, 235, 91, 58, 92, 59, 236, 237, 238, 239, 93, 94, 240, 241, 242, 243, 122, 244, 245, 246, 247, 75, 248, 357, 358, 359, 360, 361, 362, 363, 364, 365, 366, 367, 368, 369, 370, 371, 372, 373, 374, 375, 376, 377, 378, 379, 380, 381] (by rfl) (by rfl)) (goodIn_sub (fun _ h => List.mem_cons_of_mem _ (List.mem_append_left _ (List.mem_append_left _ (List.mem_append_right _ h)))) (by rfl))) (goodIn_sub (fun _ h => List.mem_cons_of_mem _ (List.mem_append_left _ (List.mem_append_right _ h))) (by rfl))
set_option maxRecDepth 20000 in
theorem gL_refuses_L_bounces : GoodIn wsL_refuses (va_wsS RL 114 yL_bounces wsL_bounces) := goodIn_app (goodIn_r _ [216, 217, 20] (by rfl) (by rfl)) ggL_refuses_L_bounces
set_option maxRecDepth 20000 in
theorem ggL_refuses_L_settles : GoodIn wsL_refuses wsL_settles := goodIn_ca (goodIn_ca (goodIn_r _ [251, 22, 24, 1, 4, 252, 253, 254, 8, 255, 29, 30, 16, 256, 257, 258, 259, 260, 36, 37, 17, 261, 237, 238, 50, 239, 93, 94, 59, 357, 358, 359, 360, 370, 371, 372, 373, 374, 375, 376, 377, 378, 379, 380, 381] (by rfl) (by rfl)) (goodIn_sub (fun _ h => List.mem_cons_of_mem _ (List.mem_append_left _ (List.mem_append_left _ (List.mem_append_right _ h)))) (by rfl))) (goodIn_sub (fun _ h => List.mem_cons_of_mem _ (List.mem_append_left _ (List.mem_append_right _ h))) (by rfl))
set_option maxRecDepth 20000 in
theorem gL_refuses_L_settles : GoodIn wsL_refuses (va_wsS RL 117 yL_settles wsL_settles) := goodIn_app (goodIn_r _ [249, 250, 20] (by rfl) (by rfl)) ggL_refuses_L_settles
set_option maxRecDepth 20000 in
theorem ggL_refuses_L_advances : GoodIn wsL_refuses wsL_advances := goodIn_ca (goodIn_r _ [264, 23, 2, 265, 266, 267, 8, 268, 32, 38, 39, 40, 41, 42, 357, 358, 359, 360] (by rfl) (by rfl)) (goodIn_sub (fun _ h => List.mem_cons_of_mem _ (List.mem_append_right _ h)) (by rfl))
set_option maxRecDepth 20000 in
theorem gL_refuses_L_advances : GoodIn wsL_refuses (va_wsS RL 121 yL_advances wsL_advances) := goodIn_app (goodIn_r _ [262, 263, 20] (by rfl) (by rfl)) ggL_refuses_L_advances
set_option maxRecDepth 20000 in
theorem ggL_refuses_L_open : GoodIn wsL_refuses wsL_open := goodIn_ca (goodIn_r _ [271, 22, 1, 272, 273, 274, 8, 275, 16, 257, 258, 259, 260, 36, 37, 17, 276, 88, 89, 50, 90, 54, 91, 92, 93, 94, 357, 358, 359, 360, 370, 371, 372, 373, 374, 375, 376, 377, 378, 379, 380, 381] (by rfl) (by rfl)) (goodIn_sub (fun _ h => List.mem_cons_of_mem _ (List.mem_append_left _ (List.mem_append_right _ h))) (by rfl))
set_option maxRecDepth 20000 in
theorem gL_refuses_L_open : GoodIn wsL_refuses (va_wsS RL 124 yL_open wsL_open) := goodIn_app (goodIn_r _ [269, 270, 20] (by rfl) (by rfl)) ggL_refuses_L_open
set_option maxRecDepth 20000 in
theorem ggL_refuses_L_due : GoodIn wsL_refuses wsL_due := goodIn_ca (goodIn_r _ [279, 22, 1, 280, 281, 282, 8, 283, 16, 32, 257, 258, 259, 260, 36, 37, 17, 104, 105, 106, 50, 107, 56, 87, 88, 89, 90, 54, 91, 92, 93, 94, 108, 109, 110, 111, 57, 357, 358, 359, 360, 370, 371, 372, 373, 374, 375, 376, 377, 378, 379, 380, 381] (by rfl) (by rfl)) (goodIn_sub (fun _ h => List.mem_cons_of_mem _ (List.mem_append_left _ (List.mem_append_right _ h))) (by rfl))
set_option maxRecDepth 20000 in
theorem gL_refuses_L_due : GoodIn wsL_refuses (va_wsS RL 126 yL_due wsL_due) := goodIn_app (goodIn_r _ [277, 278, 20] (by rfl) (by rfl)) ggL_refuses_L_due
set_option maxRecDepth 20000 in
theorem ggL_refuses_L_paid : GoodIn wsL_refuses wsL_paid := goodIn_ca (goodIn_r _ [286, 22, 1, 287, 288, 289, 8, 290, 16, 103, 257, 258, 259, 260, 36, 37, 17, 357, 358, 359, 360, 370, 371, 372, 373, 374, 375, 376, 377, 378, 379, 380, 381] (by rfl) (by rfl)) (goodIn_sub (fun _ h => List.mem_cons_of_mem _ (List.mem_append_left _ (List.mem_append_right _ h))) (by rfl))
set_option maxRecDepth 20000 in
theorem gL_refuses_L_paid : GoodIn wsL_refuses (va_wsS RL 128 yL_paid wsL_paid) := goodIn_app (goodIn_r _ [284, 285, 20] (by rfl) (by rfl)) ggL_refuses_L_paid
set_option maxRecDepth 20000 in
theorem ggL_refuses_L_taken : GoodIn wsL_refuses wsL_taken := goodIn_ca (goodIn_r _ [293, 22, 1, 294, 295, 296, 8, 297, 16, 298, 257, 258, 259, 260, 36, 37, 17, 357, 358, 359, 360, 370, 371, 372, 373, 374, 375, 376, 377, 378, 379, 380, 381] (by rfl) (by rfl)) (goodIn_sub (fun _ h => List.mem_cons_of_mem _ (List.mem_append_left _ (List.mem_append_right _ h))) (by rfl))
set_option maxRecDepth 20000 in
theorem gL_refuses_L_taken : GoodIn wsL_refuses (va_wsS RL 130 yL_taken wsL_taken) := goodIn_app (goodIn_r _ [291, 292, 20] (by rfl) (by rfl)) ggL_refuses_L_taken
set_option maxRecDepth 20000 in
theorem ggL_refuses_L_disputed : GoodIn wsL_refuses wsL_disputed := goodIn_ca (goodIn_r _ [301, 22, 1, 302, 303, 304, 8, 305, 16, 256, 257, 258, 259, 260, 36, 37, 17, 357, 358, 359, 360, 370, 371, 372, 373, 374, 375, 376, 377, 378, 379, 380, 381] (by rfl) (by rfl)) (goodIn_sub (fun _ h => List.mem_cons_of_mem _ (List.mem_append_left _ (List.mem_append_right _ h))) (by rfl))
set_option maxRecDepth 20000 in
theorem gL_refuses_L_disputed : GoodIn wsL_refuses (va_wsS RL 132 yL_disputed wsL_disputed) := goodIn_app (goodIn_r _ [299, 300, 20] (by rfl) (by rfl)) ggL_refuses_L_disputed
set_option maxRecDepth 20000 in
theorem ggL_refuses_L_written : GoodIn wsL_refuses wsL_written := goodIn_ca (goodIn_r _ [308, 22, 1, 309, 310, 311, 8, 312, 16, 313, 257, 258, 259, 260, 36, 37, 17, 357, 358, 359, 360, 370, 371, 372, 373, 374, 375, 376, 377, 378, 379, 380, 381] (by rfl) (by rfl)) (goodIn_sub (fun _ h => List.mem_cons_of_mem _ (List.mem_append_left _ (List.mem_append_right _ h))) (by rfl))
set_option maxRecDepth 20000 in
theorem gL_refuses_L_written : GoodIn wsL_refuses (va_wsS RL 134 yL_written wsL_written) := goodIn_app (goodIn_r _ [306, 307, 20] (by rfl) (by rfl)) ggL_refuses_L_written
set_option maxRecDepth 20000 in
theorem ggL_refuses_L_openOf : GoodIn wsL_refuses wsL_openOf := goodIn_ca (goodIn_r _ [316, 22, 1, 317, 318, 319, 8, 320, 16, 17, 321, 33, 34, 35, 36, 37, 276, 88, 89, 50, 90, 54, 91, 92, 93, 94, 357, 358, 359, 360, 370, 371, 372, 373, 374, 375, 376, 377, 378, 379, 380, 381] (by rfl) (by rfl)) (goodIn_sub (fun _ h => List.mem_cons_of_mem _ (List.mem_append_left _ (List.mem_append_right _ h))) (by rfl))
set_option maxRecDepth 20000 in
theorem gL_refuses_L_openOf : GoodIn wsL_refuses (va_wsS RL 137 yL_openOf wsL_openOf) := goodIn_app (goodIn_r _ [314, 315, 20] (by rfl) (by rfl)) ggL_refuses_L_openOf
set_option maxRecDepth 20000 in
theorem ggL_refuses_L_setFor : GoodIn wsL_refuses wsL_setFor := goodIn_ca (goodIn_ca (goodIn_r _ [324, 22, 23, 1, 2, 325, 326, 327, 8, 328, 36, 37, 41, 42, 138, 139, 33, 34, 35, 140, 141, 142, 143, 16, 17, 32, 144, 145, 146, 147, 148, 149, 150, 95, 96, 97, 50, 98, 53, 87, 88, 89, 90, 54, 91, 92, 93, 94, 104, 105, 106, 107, 56, 108, 109, 110, 111, 57, 151, 152, 153, 154, 155, 156, 157, 158, 159, 160, 161, 162, 163, 164, 165, 166, 167, 168, 169, 170, 171, 172, 173, 174, 175, 176, 357, 358, 359, 360, 382, 383, 384, 385, 370, 371, 372, 373, 374, 375, 376, 377, 378, 379, 380, 381] (by rfl) (by rfl)) (goodIn_sub (fun _ h => List.mem_cons_of_mem _ (List.mem_append_left _ (List.mem_append_right _ h))) (by rfl))) (goodIn_sub (fun _ h => List.mem_cons_of_mem _ (List.mem_append_right _ h)) (by rfl))
set_option maxRecDepth 20000 in
theorem gL_refuses_L_setFor : GoodIn wsL_refuses (va_wsS RL 139 yL_setFor wsL_setFor) := goodIn_app (goodIn_r _ [322, 323, 20] (by rfl) (by rfl)) ggL_refuses_L_setFor
set_option maxRecDepth 20000 in
theorem ggL_refuses_L_customer : GoodIn wsL_refuses wsL_customer := goodIn_ca (goodIn_r _ [331, 22, 1, 332, 333, 334, 8, 335, 10, 80, 188, 189, 190, 191, 36, 37, 11, 357, 358, 359, 360, 361, 362, 363, 364, 365, 366, 367, 368, 369] (by rfl) (by rfl)) (goodIn_sub (fun _ h => List.mem_cons_of_mem _ (List.mem_append_left _ (List.mem_append_right _ h))) (by rfl))
set_option maxRecDepth 20000 in
theorem gL_refuses_L_customer : GoodIn wsL_refuses (va_wsS RL 141 yL_customer wsL_customer) := goodIn_app (goodIn_r _ [329, 330, 20] (by rfl) (by rfl)) ggL_refuses_L_customer
set_option maxRecDepth 20000 in
theorem ggL_refuses_L_appliedTo : GoodIn wsL_refuses wsL_appliedTo := goodIn_ca (goodIn_r _ [338, 22, 1, 339, 340, 341, 8, 342, 10, 188, 189, 190, 191, 36, 37, 11, 257, 258, 259, 260, 16, 17, 228, 229, 230, 70, 231, 120, 123, 124, 125, 357, 358, 359, 360, 361, 362, 363, 364, 365, 366, 367, 368, 369, 370, 371, 372, 373, 374, 375, 376, 377, 378, 379, 380, 381] (by rfl) (by rfl)) (goodIn_sub (fun _ h => List.mem_cons_of_mem _ (List.mem_append_left _ (List.mem_append_right _ h))) (by rfl))
set_option maxRecDepth 20000 in
theorem gL_refuses_L_appliedTo : GoodIn wsL_refuses (va_wsS RL 144 yL_appliedTo wsL_appliedTo) := goodIn_app (goodIn_r _ [336, 337, 20] (by rfl) (by rfl)) ggL_refuses_L_appliedTo
set_option maxRecDepth 20000 in
theorem ggL_refuses_L_unapplied : GoodIn wsL_refuses wsL_unapplied := goodIn_ca (goodIn_r _ [345, 22, 1, 346, 347, 348, 8, 349, 10, 81, 188, 189, 190, 191, 36, 37, 11, 357, 358, 359, 360, 361, 362, 363, 364, 365, 366, 367, 368, 369] (by rfl) (by rfl)) (goodIn_sub (fun _ h => List.mem_cons_of_mem _ (List.mem_append_left _ (List.mem_append_right _ h))) (by rfl))
set_option maxRecDepth 20000 in
theorem gL_refuses_L_unapplied : GoodIn wsL_refuses (va_wsS RL 146 yL_unapplied wsL_unapplied) := goodIn_app (goodIn_r _ [343, 344, 20] (by rfl) (by rfl)) ggL_refuses_L_unapplied
set_option maxRecDepth 20000 in
theorem ggL_refuses_L_bounced : GoodIn wsL_refuses wsL_bounced := goodIn_ca (goodIn_r _ [352, 22, 1, 353, 354, 355, 8, 356, 10, 196, 188, 189, 190, 191, 36, 37, 11, 357, 358, 359, 360, 361, 362, 363, 364, 365, 366, 367, 368, 369] (by rfl) (by rfl)) (goodIn_sub (fun _ h => List.mem_cons_of_mem _ (List.mem_append_left _ (List.mem_append_right _ h))) (by rfl))
set_option maxRecDepth 20000 in
theorem gL_refuses_L_bounced : GoodIn wsL_refuses (va_wsS RL 148 yL_bounced wsL_bounced) := goodIn_app (goodIn_r _ [350, 351, 20] (by rfl) (by rfl)) ggL_refuses_L_bounced
set_option maxRecDepth 20000 in
theorem ggL_act_L_bills : GoodIn wsL_act wsL_bills := goodIn_ca (goodIn_ca (goodIn_ca (goodIn_r _ [4, 5, 6, 7, 8, 9, 10, 11, 12, 13, 14, 15, 16, 17, 18, 19, 20, 21, 22, 23, 24, 25, 26, 27, 28, 29, 30, 31, 32, 33, 34, 35, 36, 37, 38, 39, 40, 41, 42, 43, 44, 45, 46, 47, 48, 275, 276, 277, 278, 279, 280, 281, 282, 283, 284, 285, 286, 287, 288, 289, 290] (by rfl) (by rfl)) (goodIn_sub (fun _ h => List.mem_cons_of_mem _ (List.mem_append_left _ (List.mem_append_left _ (List.mem_append_right _ h)))) (by rfl))) (goodIn_sub (fun _ h => List.mem_cons_of_mem _ (List.mem_append_left _ (List.mem_append_right _ h))) (by rfl))) (goodIn_sub (fun _ h => List.mem_cons_of_mem _ (List.mem_append_right _ h)) (by rfl))
set_option maxRecDepth 20000 in
theorem gL_act_L_bills : GoodIn wsL_act (va_wsS RL 93 yL_bills wsL_bills) := goodIn_app (goodIn_r _ [1, 2, 3] (by rfl) (by rfl)) ggL_act_L_bills
set_option maxRecDepth 20000 in
theorem ggL_act_L_receives : GoodIn wsL_act wsL_receives := goodIn_ca (goodIn_ca (goodIn_ca (goodIn_r _ [51, 5, 6, 7, 8, 9, 10, 52, 53, 54, 14, 55, 16, 17, 18, 56, 57, 22, 23, 24, 25, 26, 27, 28, 29, 30, 31, 58, 59, 60, 61, 62, 63, 64, 65, 66, 67, 68, 69, 70, 71, 19, 20, 72, 73, 74, 75, 76, 39, 77, 41, 44, 42, 78, 79, 80, 81, 43, 82, 83, 84, 85, 86, 87, 88, 89, 90, 91, 92, 93, 21, 94, 95, 96, 97, 98, 45, 99, 100, 101, 102, 46, 103, 104, 105, 106, 47, 107, 108, 109, 110, 111, 112, 113, 114, 115, 116, 117, 118, 119, 120, 48, 121, 122, 123, 124, 125, 126, 127, 128, 129, 130, 131, 132, 133, 134, 135, 136, 137, 138, 139, 140, 141, 142, 143, 144, 145, 146, 147, 148, 149, 150, 151, 152, 153, 154, 155, 156, 157, 158, 159, 160, 161, 162, 163, 164, 165, 166, 167, 168, 169, 170, 171, 275, 276, 277, 278, 291, 292, 293, 294, 295, 296, 297, 298, 299, 279, 280, 281, 282, 283, 284, 285, 286, 287, 288, 289, 290, 300, 301, 302, 303] (by rfl) (by rfl)) (goodIn_sub (fun _ h => List.mem_cons_of_mem _ (List.mem_append_left _ (List.mem_append_left _ (List.mem_append_right _ h)))) (by rfl))) (goodIn_sub (fun _ h => List.mem_cons_of_mem _ (List.mem_append_left _ (List.mem_append_right _ h))) (by rfl))) (goodIn_sub (fun _ h => List.mem_cons_of_mem _ (List.mem_append_right _ h)) (by rfl))
set_option maxRecDepth 20000 in
theorem gL_act_L_receives : GoodIn wsL_act (va_wsS RL 99 yL_receives wsL_receives) := goodIn_app (goodIn_r _ [49, 50, 3] (by rfl) (by rfl)) ggL_act_L_receives
set_option maxRecDepth 20000 in
theorem ggL_act_X3_receipts : GoodIn wsL_act wsX3_receipts := goodIn_r _ [175, 56, 57, 275, 276, 277, 278, 291, 292, 293, 294, 295, 296, 297, 298, 299] (by rfl) (by rfl)
set_option maxRecDepth 20000 in
theorem gL_act_X3_receipts : GoodIn wsL_act (wsV RL 86 RX3 yX3_receipts wsX3_receipts) := goodIn_app (goodIn_r _ [172, 173, 174, 14] (by rfl) (by rfl)) ggL_act_X3_receipts
set_option maxRecDepth 20000 in
theorem ggL_act_L_assigns : GoodIn wsL_act wsL_assigns := goodIn_ca (goodIn_ca (goodIn_r _ [178, 5, 7, 8, 10, 179, 180, 181, 14, 182, 16, 17, 56, 71, 72, 183, 184, 185, 186, 25, 26, 57, 22, 23, 24, 187, 188, 189, 190, 191, 121, 122, 123, 124, 125, 126, 127, 128, 129, 130, 19, 20, 131, 132, 133, 134, 21, 135, 136, 137, 138, 139, 140, 141, 86, 87, 88, 39, 89, 42, 78, 79, 80, 81, 43, 82, 83, 84, 85, 95, 96, 97, 98, 45, 99, 100, 101, 102, 46, 142, 143, 144, 145, 146, 147, 148, 149, 150, 151, 152, 153, 154, 155, 156, 157, 158, 159, 160, 161, 162, 163, 164, 165, 166, 167, 90, 91, 92, 93, 94, 103, 104, 105, 106, 47, 107, 108, 109, 61, 110, 111, 112, 113, 66, 114, 115, 116, 168, 169, 170, 171, 275, 276, 277, 278, 291, 292, 293, 294, 295, 296, 297, 298, 299, 300, 301, 302, 303, 279, 280, 281, 282, 283, 284, 285, 286, 287, 288, 289, 290] (by rfl) (by rfl)) (goodIn_sub (fun _ h => List.mem_cons_of_mem _ (List.mem_append_left _ (List.mem_append_left _ (List.mem_append_right _ h)))) (by rfl))) (goodIn_sub (fun _ h => List.mem_cons_of_mem _ (List.mem_append_left _ (List.mem_append_right _ h))) (by rfl))
set_option maxRecDepth 20000 in
theorem gL_act_L_assigns : GoodIn wsL_act (va_wsS RL 103 yL_assigns wsL_assigns) := goodIn_app (goodIn_r _ [176, 177, 3] (by rfl) (by rfl)) ggL_act_L_assigns
set_option maxRecDepth 20000 in
theorem ggL_act_L_applies : GoodIn wsL_act wsL_applies := goodIn_ca (goodIn_ca (goodIn_r _ [194, 5, 7, 8, 10, 195, 196, 197, 14, 198, 16, 17, 56, 71, 72, 183, 184, 185, 186, 25, 26, 57, 187, 188, 189, 190, 191, 121, 122, 123, 124, 125, 126, 127, 128, 129, 130, 19, 20, 131, 132, 133, 134, 21, 135, 136, 137, 138, 139, 140, 141, 86, 87, 88, 39, 89, 42, 78, 79, 80, 81, 43, 82, 83, 84, 85, 95, 96, 97, 98, 45, 99, 100, 101, 102, 46, 142, 143, 144, 145, 146, 147, 148, 149, 150, 151, 152, 153, 154, 155, 156, 157, 158, 159, 160, 161, 162, 163, 164, 165, 166, 167, 90, 91, 92, 93, 94, 103, 104, 105, 106, 47, 107, 108, 109, 61, 110, 111, 112, 113, 66, 114, 115, 116, 168, 169, 170, 171, 275, 276, 277, 278, 291, 292, 293, 294, 295, 296, 297, 298, 299, 300, 301, 302, 303, 279, 280, 281, 282, 283, 284, 285, 286, 287, 288, 289, 290] (by rfl) (by rfl)) (goodIn_sub (fun _ h => List.mem_cons_of_mem _ (List.mem_append_left _ (List.mem_append_left _ (List.mem_append_right _ h)))) (by rfl))) (goodIn_sub (fun _ h => List.mem_cons_of_mem _ (List.mem_append_left _ (List.mem_append_right _ h))) (by rfl))
set_option maxRecDepth 20000 in
theorem gL_act_L_applies : GoodIn wsL_act (va_wsS RL 107 yL_applies wsL_applies) := goodIn_app (goodIn_r _ [192, 193, 3] (by rfl) (by rfl)) ggL_act_L_applies
set_option maxRecDepth 20000 in
theorem ggL_act_L_paysBack : GoodIn wsL_act wsL_paysBack := goodIn_ca (goodIn_ca (goodIn_r _ [201, 5, 7, 8, 10, 202, 203, 204, 14, 205, 16, 17, 56, 72, 183, 184, 185, 186, 25, 26, 57, 187, 188, 189, 190, 191, 206, 207, 208, 61, 209, 66, 210, 275, 276, 277, 278, 291, 292, 293, 294, 295, 296, 297, 298, 299] (by rfl) (by rfl)) (goodIn_sub (fun _ h => List.mem_cons_of_mem _ (List.mem_append_left _ (List.mem_append_left _ (List.mem_append_right _ h)))) (by rfl))) (goodIn_sub (fun _ h => List.mem_cons_of_mem _ (List.mem_append_left _ (List.mem_append_right _ h))) (by rfl))
set_option maxRecDepth 20000 in
theorem gL_act_L_paysBack : GoodIn wsL_act (va_wsS RL 111 yL_paysBack wsL_paysBack) := goodIn_app (goodIn_r _ [199, 200, 3] (by rfl) (by rfl)) ggL_act_L_paysBack
set_option maxRecDepth 20000 in
theorem ggL_act_L_bounces : GoodIn wsL_act wsL_bounces := goodIn_ca (goodIn_ca (goodIn_r _ [213, 5, 7, 8, 10, 214, 215, 216, 14, 217, 16, 17, 56, 218, 19, 20, 183, 184, 185, 186, 25, 26, 57, 187, 188, 189, 190, 191, 219, 220, 221, 61, 222, 112, 114, 115, 116, 223, 224, 225, 226, 111, 227, 228, 229, 39, 230, 82, 47, 83, 48, 231, 232, 233, 234, 84, 85, 235, 236, 237, 238, 113, 239, 240, 241, 242, 66, 243, 275, 276, 277, 278, 291, 292, 293, 294, 295, 296, 297, 298, 299, 279, 280, 281, 282, 283, 284, 285, 286, 287, 288, 289, 290] (by rfl) (by rfl)) (goodIn_sub (fun _ h => List.mem_cons_of_mem _ (List.mem_append_left _ (List.mem_append_left _ (List.mem_append_right _ h)))) (by rfl))) (goodIn_sub (fun _ h => List.mem_cons_of_mem _ (List.mem_append_left _ (List.mem_append_right _ h))) (by rfl))
set_option maxRecDepth 20000 in
theorem gL_act_L_bounces : GoodIn wsL_act (va_wsS RL 114 yL_bounces wsL_bounces) := goodIn_app (goodIn_r _ [211, 212, 3] (by rfl) (by rfl)) ggL_act_L_bounces
set_option maxRecDepth 20000 in
theorem ggL_act_X3_bills : GoodIn wsL_act wsX3_bills := goodIn_r _ [247, 19, 20, 275, 276, 277, 278, 279, 280, 281, 282, 283, 284, 285, 286, 287, 288, 289, 290] (by rfl) (by rfl)
set_option maxRecDepth 20000 in
theorem gL_act_X3_bills : GoodIn wsL_act (wsV RL 90 RX3 yX3_bills wsX3_bills) := goodIn_app (goodIn_r _ [244, 245, 246, 14] (by rfl) (by rfl)) ggL_act_X3_bills
set_option maxRecDepth 20000 in
theorem ggL_act_L_disputed : GoodIn wsL_act wsL_disputed := goodIn_ca (goodIn_r _ [250, 5, 8, 251, 252, 253, 14, 254, 19, 255, 256, 257, 258, 259, 25, 26, 20, 275, 276, 277, 278, 279, 280, 281, 282, 283, 284, 285, 286, 287, 288, 289, 290] (by rfl) (by rfl)) (goodIn_sub (fun _ h => List.mem_cons_of_mem _ (List.mem_append_left _ (List.mem_append_right _ h))) (by rfl))
set_option maxRecDepth 20000 in
theorem gL_act_L_disputed : GoodIn wsL_act (va_wsS RL 132 yL_disputed wsL_disputed) := goodIn_app (goodIn_r _ [248, 249, 3] (by rfl) (by rfl)) ggL_act_L_disputed
set_option maxRecDepth 20000 in
theorem ggL_act_L_settles : GoodIn wsL_act wsL_settles := goodIn_ca (goodIn_ca (goodIn_r _ [262, 5, 7, 8, 10, 263, 264, 265, 14, 266, 16, 17, 19, 255, 256, 257, 258, 259, 25, 26, 20, 267, 232, 233, 39, 234, 84, 85, 48, 275, 276, 277, 278, 279, 280, 281, 282, 283, 284, 285, 286, 287, 288, 289, 290] (by rfl) (by rfl)) (goodIn_sub (fun _ h => List.mem_cons_of_mem _ (List.mem_append_left _ (List.mem_append_left _ (List.mem_append_right _ h)))) (by rfl))) (goodIn_sub (fun _ h => List.mem_cons_of_mem _ (List.mem_append_left _ (List.mem_append_right _ h))) (by rfl))
set_option maxRecDepth 20000 in
theorem gL_act_L_settles : GoodIn wsL_act (va_wsS RL 117 yL_settles wsL_settles) := goodIn_app (goodIn_r _ [260, 261, 3] (by rfl) (by rfl)) ggL_act_L_settles
set_option maxRecDepth 20000 in
theorem ggL_act_L_advances : GoodIn wsL_act wsL_advances := goodIn_ca (goodIn_r _ [270, 6, 9, 271, 272, 273, 14, 274, 21, 27, 28, 29, 30, 31, 275, 276, 277, 278] (by rfl) (by rfl)) (goodIn_sub (fun _ h => List.mem_cons_of_mem _ (List.mem_append_right _ h)) (by rfl))
set_option maxRecDepth 20000 in
theorem gL_act_L_advances : GoodIn wsL_act (va_wsS RL 121 yL_advances wsL_advances) := goodIn_app (goodIn_r _ [268, 269, 3] (by rfl) (by rfl)) ggL_act_L_advances
set_option maxRecDepth 20000 in
theorem ggL_alike_X3_bills : GoodIn wsL_alike wsX3_bills := goodIn_r _ [5, 6, 7, 142, 143, 144, 145, 146, 147, 148, 149, 150, 151, 152, 153, 154, 155, 156, 157] (by rfl) (by rfl)
set_option maxRecDepth 20000 in
theorem gL_alike_X3_bills : GoodIn wsL_alike (wsV RL 90 RX3 yX3_bills wsX3_bills) := goodIn_app (goodIn_r _ [1, 2, 3, 4] (by rfl) (by rfl)) ggL_alike_X3_bills
set_option maxRecDepth 20000 in
theorem ggL_alike_X3_receipts : GoodIn wsL_alike wsX3_receipts := goodIn_r _ [11, 12, 13, 142, 143, 144, 145, 158, 159, 160, 161, 162, 163, 164, 165, 166] (by rfl) (by rfl)
set_option maxRecDepth 20000 in
theorem gL_alike_X3_receipts : GoodIn wsL_alike (wsV RL 86 RX3 yX3_receipts wsX3_receipts) := goodIn_app (goodIn_r _ [8, 9, 10, 4] (by rfl) (by rfl)) ggL_alike_X3_receipts
set_option maxRecDepth 20000 in
theorem ggL_alike_X3_day : GoodIn wsL_alike wsX3_day := goodIn_r _ [17, 18, 142, 143, 144, 145] (by rfl) (by rfl)
set_option maxRecDepth 20000 in
theorem gL_alike_X3_day : GoodIn wsL_alike (wsV RL 151 RX3 yX3_day wsX3_day) := goodIn_app (goodIn_r _ [14, 15, 16, 4] (by rfl) (by rfl)) ggL_alike_X3_day
set_option maxRecDepth 20000 in
theorem ggL_alike_X3_received : GoodIn wsL_alike wsX3_received := goodIn_r _ [22, 12, 23, 24, 25, 26, 27, 28, 29, 142, 143, 144, 145, 158, 159, 160, 161, 162, 163, 164, 165, 166] (by rfl) (by rfl)
set_option maxRecDepth 20000 in
theorem gL_alike_X3_received : GoodIn wsL_alike (wsV RL 154 RX3 yX3_received wsX3_received) := goodIn_app (goodIn_r _ [19, 20, 21, 4] (by rfl) (by rfl)) ggL_alike_X3_received
set_option maxRecDepth 20000 in
theorem ggL_alike_X3_applied : GoodIn wsL_alike wsX3_applied := goodIn_r _ [33, 12, 34, 24, 25, 26, 27, 28, 29, 142, 143, 144, 145, 158, 159, 160, 161, 162, 163, 164, 165, 166] (by rfl) (by rfl)
set_option maxRecDepth 20000 in
theorem gL_alike_X3_applied : GoodIn wsL_alike (wsV RL 157 RX3 yX3_applied wsX3_applied) := goodIn_app (goodIn_r _ [30, 31, 32, 4] (by rfl) (by rfl)) ggL_alike_X3_applied
set_option maxRecDepth 20000 in
theorem ggL_alike_X3_allUnapplied : GoodIn wsL_alike wsX3_allUnapplied := goodIn_r _ [38, 12, 39, 24, 25, 26, 27, 28, 29, 142, 143, 144, 145, 158, 159, 160, 161, 162, 163, 164, 165, 166] (by rfl) (by rfl)
set_option maxRecDepth 20000 in
theorem gL_alike_X3_allUnapplied : GoodIn wsL_alike (wsV RL 160 RX3 yX3_allUnapplied wsX3_allUnapplied) := goodIn_app (goodIn_r _ [35, 36, 37, 4] (by rfl) (by rfl)) ggL_alike_X3_allUnapplied
set_option maxRecDepth 20000 in
theorem ggL_alike_X3_paidBack : GoodIn wsL_alike wsX3_paidBack := goodIn_r _ [43, 12, 44, 24, 25, 26, 27, 28, 29, 142, 143, 144, 145, 158, 159, 160, 161, 162, 163, 164, 165, 166] (by rfl) (by rfl)
set_option maxRecDepth 20000 in
theorem gL_alike_X3_paidBack : GoodIn wsL_alike (wsV RL 163 RX3 yX3_paidBack wsX3_paidBack) := goodIn_app (goodIn_r _ [40, 41, 42, 4] (by rfl) (by rfl)) ggL_alike_X3_paidBack
set_option maxRecDepth 20000 in
theorem ggL_alike_X3_bounced : GoodIn wsL_alike wsX3_bounced := goodIn_r _ [48, 12, 49, 50, 51, 27, 52, 29, 53, 54, 142, 143, 144, 145, 158, 159, 160, 161, 162, 163, 164, 165, 166] (by rfl) (by rfl)
set_option maxRecDepth 20000 in
theorem gL_alike_X3_bounced : GoodIn wsL_alike (wsV RL 166 RX3 yX3_bounced wsX3_bounced) := goodIn_app (goodIn_r _ [45, 46, 47, 4] (by rfl) (by rfl)) ggL_alike_X3_bounced
set_option maxRecDepth 20000 in
theorem ggL_alike_L_open : GoodIn wsL_alike wsL_open := goodIn_ca (goodIn_r _ [58, 59, 60, 61, 62, 63, 4, 64, 6, 65, 66, 67, 68, 69, 70, 7, 71, 72, 73, 74, 75, 76, 77, 78, 79, 80, 142, 143, 144, 145, 146, 147, 148, 149, 150, 151, 152, 153, 154, 155, 156, 157] (by rfl) (by rfl)) (goodIn_sub (fun _ h => List.mem_cons_of_mem _ (List.mem_append_right _ h)) (by rfl))
set_option maxRecDepth 20000 in
theorem gL_alike_L_open : GoodIn wsL_alike (va_wsS RL 124 yL_open wsL_open) := goodIn_app (goodIn_r _ [55, 56, 57] (by rfl) (by rfl)) ggL_alike_L_open
set_option maxRecDepth 20000 in
theorem ggL_alike_L_paid : GoodIn wsL_alike wsL_paid := goodIn_ca (goodIn_r _ [83, 59, 60, 84, 85, 86, 4, 87, 6, 88, 65, 66, 67, 68, 69, 70, 7, 142, 143, 144, 145, 146, 147, 148, 149, 150, 151, 152, 153, 154, 155, 156, 157] (by rfl) (by rfl)) (goodIn_sub (fun _ h => List.mem_cons_of_mem _ (List.mem_append_right _ h)) (by rfl))
set_option maxRecDepth 20000 in
theorem gL_alike_L_paid : GoodIn wsL_alike (va_wsS RL 128 yL_paid wsL_paid) := goodIn_app (goodIn_r _ [81, 82, 57] (by rfl) (by rfl)) ggL_alike_L_paid
set_option maxRecDepth 20000 in
theorem ggL_alike_L_taken : GoodIn wsL_alike wsL_taken := goodIn_ca (goodIn_r _ [91, 59, 60, 92, 93, 94, 4, 95, 6, 96, 65, 66, 67, 68, 69, 70, 7, 142, 143, 144, 145, 146, 147, 148, 149, 150, 151, 152, 153, 154, 155, 156, 157] (by rfl) (by rfl)) (goodIn_sub (fun _ h => List.mem_cons_of_mem _ (List.mem_append_right _ h)) (by rfl))
set_option maxRecDepth 20000 in
theorem gL_alike_L_taken : GoodIn wsL_alike (va_wsS RL 130 yL_taken wsL_taken) := goodIn_app (goodIn_r _ [89, 90, 57] (by rfl) (by rfl)) ggL_alike_L_taken
set_option maxRecDepth 20000 in
theorem ggL_alike_L_disputed : GoodIn wsL_alike wsL_disputed := goodIn_ca (goodIn_r _ [99, 59, 60, 100, 101, 102, 4, 103, 6, 104, 65, 66, 67, 68, 69, 70, 7, 142, 143, 144, 145, 146, 147, 148, 149, 150, 151, 152, 153, 154, 155, 156, 157] (by rfl) (by rfl)) (goodIn_sub (fun _ h => List.mem_cons_of_mem _ (List.mem_append_right _ h)) (by rfl))
set_option maxRecDepth 20000 in
theorem gL_alike_L_disputed : GoodIn wsL_alike (va_wsS RL 132 yL_disputed wsL_disputed) := goodIn_app (goodIn_r _ [97, 98, 57] (by rfl) (by rfl)) ggL_alike_L_disputed
set_option maxRecDepth 20000 in
theorem ggL_alike_L_due : GoodIn wsL_alike wsL_due := goodIn_ca (goodIn_r _ [107, 59, 60, 108, 109, 110, 4, 111, 6, 18, 65, 66, 67, 68, 69, 70, 7, 112, 113, 114, 74, 115, 116, 117, 72, 73, 75, 76, 77, 78, 79, 80, 118, 119, 120, 121, 122, 142, 143, 144, 145, 146, 147, 148, 149, 150, 151, 152, 153, 154, 155, 156, 157] (by rfl) (by rfl)) (goodIn_sub (fun _ h => List.mem_cons_of_mem _ (List.mem_append_right _ h)) (by rfl))
set_option maxRecDepth 20000 in
theorem gL_alike_L_due : GoodIn wsL_alike (va_wsS RL 126 yL_due wsL_due) := goodIn_app (goodIn_r _ [105, 106, 57] (by rfl) (by rfl)) ggL_alike_L_due
set_option maxRecDepth 20000 in
theorem ggL_alike_L_customer : GoodIn wsL_alike wsL_customer := goodIn_ca (goodIn_r _ [125, 59, 60, 126, 127, 128, 4, 129, 12, 130, 131, 132, 133, 134, 69, 70, 13, 142, 143, 144, 145, 158, 159, 160, 161, 162, 163, 164, 165, 166] (by rfl) (by rfl)) (goodIn_sub (fun _ h => List.mem_cons_of_mem _ (List.mem_append_right _ h)) (by rfl))
set_option maxRecDepth 20000 in
theorem gL_alike_L_customer : GoodIn wsL_alike (va_wsS RL 141 yL_customer wsL_customer) := goodIn_app (goodIn_r _ [123, 124, 57] (by rfl) (by rfl)) ggL_alike_L_customer
set_option maxRecDepth 20000 in
theorem ggL_alike_L_unapplied : GoodIn wsL_alike wsL_unapplied := goodIn_ca (goodIn_r _ [137, 59, 60, 138, 139, 140, 4, 141, 12, 39, 131, 132, 133, 134, 69, 70, 13, 142, 143, 144, 145, 158, 159, 160, 161, 162, 163, 164, 165, 166] (by rfl) (by rfl)) (goodIn_sub (fun _ h => List.mem_cons_of_mem _ (List.mem_append_right _ h)) (by rfl))
set_option maxRecDepth 20000 in
theorem gL_alike_L_unapplied : GoodIn wsL_alike (va_wsS RL 146 yL_unapplied wsL_unapplied) := goodIn_app (goodIn_r _ [135, 136, 57] (by rfl) (by rfl)) ggL_alike_L_unapplied
set_option maxRecDepth 20000 in
theorem ggL_holds_X3_received : GoodIn wsL_holds wsX3_received := goodIn_r _ [5, 6, 7, 8, 9, 10, 11, 12, 13, 180, 181, 182, 183, 184, 185, 186, 187, 188, 189, 190, 191, 192] (by rfl) (by rfl)
set_option maxRecDepth 20000 in
theorem gL_holds_X3_received : GoodIn wsL_holds (wsV RL 154 RX3 yX3_received wsX3_received) := goodIn_app (goodIn_r _ [1, 2, 3, 4] (by rfl) (by rfl)) ggL_holds_X3_received
set_option maxRecDepth 20000 in
theorem ggL_holds_X3_applied : GoodIn wsL_holds wsX3_applied := goodIn_r _ [17, 6, 18, 8, 9, 10, 11, 12, 13, 180, 181, 182, 183, 184, 185, 186, 187, 188, 189, 190, 191, 192] (by rfl) (by rfl)
set_option maxRecDepth 20000 in
theorem gL_holds_X3_applied : GoodIn wsL_holds (wsV RL 157 RX3 yX3_applied wsX3_applied) := goodIn_app (goodIn_r _ [14, 15, 16, 4] (by rfl) (by rfl)) ggL_holds_X3_applied
set_option maxRecDepth 20000 in
theorem ggL_holds_X3_allUnapplied : GoodIn wsL_holds wsX3_allUnapplied := goodIn_r _ [22, 6, 23, 8, 9, 10, 11, 12, 13, 180, 181, 182, 183, 184, 185, 186, 187, 188, 189, 190, 191, 192] (by rfl) (by rfl)
set_option maxRecDepth 20000 in
theorem gL_holds_X3_allUnapplied : GoodIn wsL_holds (wsV RL 160 RX3 yX3_allUnapplied wsX3_allUnapplied) := goodIn_app (goodIn_r _ [19, 20, 21, 4] (by rfl) (by rfl)) ggL_holds_X3_allUnapplied
set_option maxRecDepth 20000 in
theorem ggL_holds_X3_paidBack : GoodIn wsL_holds wsX3_paidBack := goodIn_r _ [27, 6, 28, 8, 9, 10, 11, 12, 13, 180, 181, 182, 183, 184, 185, 186, 187, 188, 189, 190, 191, 192] (by rfl) (by rfl)
set_option maxRecDepth 20000 in
theorem gL_holds_X3_paidBack : GoodIn wsL_holds (wsV RL 163 RX3 yX3_paidBack wsX3_paidBack) := goodIn_app (goodIn_r _ [24, 25, 26, 4] (by rfl) (by rfl)) ggL_holds_X3_paidBack
set_option maxRecDepth 20000 in
theorem ggL_holds_X3_bounced : GoodIn wsL_holds wsX3_bounced := goodIn_r _ [32, 6, 33, 34, 35, 11, 36, 13, 37, 38, 180, 181, 182, 183, 184, 185, 186, 187, 188, 189, 190, 191, 192] (by rfl) (by rfl)
set_option maxRecDepth 20000 in
theorem gL_holds_X3_bounced : GoodIn wsL_holds (wsV RL 166 RX3 yX3_bounced wsX3_bounced) := goodIn_app (goodIn_r _ [29, 30, 31, 4] (by rfl) (by rfl)) ggL_holds_X3_bounced
set_option maxRecDepth 20000 in
theorem ggL_holds_X3_bills : GoodIn wsL_holds wsX3_bills := goodIn_r _ [42, 43, 44, 180, 181, 182, 183, 193, 194, 195, 196, 197, 198, 199, 200, 201, 202, 203, 204] (by rfl) (by rfl)
set_option maxRecDepth 20000 in
theorem gL_holds_X3_bills : GoodIn wsL_holds (wsV RL 90 RX3 yX3_bills wsX3_bills) := goodIn_app (goodIn_r _ [39, 40, 41, 4] (by rfl) (by rfl)) ggL_holds_X3_bills
set_option maxRecDepth 20000 in
theorem ggL_holds_X3_receipts : GoodIn wsL_holds wsX3_receipts := goodIn_r _ [48, 6, 49, 180, 181, 182, 183, 184, 185, 186, 187, 188, 189, 190, 191, 192] (by rfl) (by rfl)
set_option maxRecDepth 20000 in
theorem gL_holds_X3_receipts : GoodIn wsL_holds (wsV RL 86 RX3 yX3_receipts wsX3_receipts) := goodIn_app (goodIn_r _ [45, 46, 47, 4] (by rfl) (by rfl)) ggL_holds_X3_receipts
set_option maxRecDepth 20000 in
theorem ggL_holds_L_appliedTo : GoodIn wsL_holds wsL_appliedTo := goodIn_ca (goodIn_r _ [53, 54, 55, 56, 57, 58, 4, 59, 6, 60, 61, 62, 63, 64, 65, 49, 66, 67, 68, 69, 43, 44, 70, 71, 72, 11, 73, 74, 75, 76, 77, 180, 181, 182, 183, 184, 185, 186, 187, 188, 189, 190, 191, 192, 193, 194, 195, 196, 197, 198, 199, 200, 201, 202, 203, 204] (by rfl) (by rfl)) (goodIn_sub (fun _ h => List.mem_cons_of_mem _ (List.mem_append_right _ h)) (by rfl))
set_option maxRecDepth 20000 in
theorem gL_holds_L_appliedTo : GoodIn wsL_holds (va_wsS RL 144 yL_appliedTo wsL_appliedTo) := goodIn_app (goodIn_r _ [50, 51, 52] (by rfl) (by rfl)) ggL_holds_L_appliedTo
set_option maxRecDepth 20000 in
theorem ggL_holds_L_customer : GoodIn wsL_holds wsL_customer := goodIn_ca (goodIn_r _ [80, 54, 55, 81, 82, 83, 4, 84, 6, 85, 60, 61, 62, 63, 64, 65, 49, 180, 181, 182, 183, 184, 185, 186, 187, 188, 189, 190, 191, 192] (by rfl) (by rfl)) (goodIn_sub (fun _ h => List.mem_cons_of_mem _ (List.mem_append_right _ h)) (by rfl))
set_option maxRecDepth 20000 in
theorem gL_holds_L_customer : GoodIn wsL_holds (va_wsS RL 141 yL_customer wsL_customer) := goodIn_app (goodIn_r _ [78, 79, 52] (by rfl) (by rfl)) ggL_holds_L_customer
set_option maxRecDepth 20000 in
theorem ggL_holds_L_bounced : GoodIn wsL_holds wsL_bounced := goodIn_ca (goodIn_r _ [88, 54, 55, 89, 90, 91, 4, 92, 6, 93, 60, 61, 62, 63, 64, 65, 49, 180, 181, 182, 183, 184, 185, 186, 187, 188, 189, 190, 191, 192] (by rfl) (by rfl)) (goodIn_sub (fun _ h => List.mem_cons_of_mem _ (List.mem_append_right _ h)) (by rfl))
set_option maxRecDepth 20000 in
theorem gL_holds_L_bounced : GoodIn wsL_holds (va_wsS RL 148 yL_bounced wsL_bounced) := goodIn_app (goodIn_r _ [86, 87, 52] (by rfl) (by rfl)) ggL_holds_L_bounced
set_option maxRecDepth 20000 in
theorem ggL_holds_L_paid : GoodIn wsL_holds wsL_paid := goodIn_ca (goodIn_r _ [96, 54, 55, 97, 98, 99, 4, 100, 43, 101, 66, 67, 68, 69, 64, 65, 44, 180, 181, 182, 183, 193, 194, 195, 196, 197, 198, 199, 200, 201, 202, 203, 204] (by rfl) (by rfl)) (goodIn_sub (fun _ h => List.mem_cons_of_mem _ (List.mem_append_right _ h)) (by rfl))
set_option maxRecDepth 20000 in
theorem gL_holds_L_paid : GoodIn wsL_holds (va_wsS RL 128 yL_paid wsL_paid) := goodIn_app (goodIn_r _ [94, 95, 52] (by rfl) (by rfl)) ggL_holds_L_paid
set_option maxRecDepth 20000 in
theorem ggL_holds_L_open : GoodIn wsL_holds wsL_open := goodIn_ca (goodIn_r _ [104, 54, 55, 105, 106, 107, 4, 108, 43, 66, 67, 68, 69, 64, 65, 44, 109, 110, 111, 112, 113, 114, 115, 116, 117, 118, 180, 181, 182, 183, 193, 194, 195, 196, 197, 198, 199, 200, 201, 202, 203, 204] (by rfl) (by rfl)) (goodIn_sub (fun _ h => List.mem_cons_of_mem _ (List.mem_append_right _ h)) (by rfl))
set_option maxRecDepth 20000 in
theorem gL_holds_L_open : GoodIn wsL_holds (va_wsS RL 124 yL_open wsL_open) := goodIn_app (goodIn_r _ [102, 103, 52] (by rfl) (by rfl)) ggL_holds_L_open
set_option maxRecDepth 20000 in
theorem ggL_holds_L_taken : GoodIn wsL_holds wsL_taken := goodIn_ca (goodIn_r _ [121, 54, 55, 122, 123, 124, 4, 125, 43, 126, 66, 67, 68, 69, 64, 65, 44, 180, 181, 182, 183, 193, 194, 195, 196, 197, 198, 199, 200, 201, 202, 203, 204] (by rfl) (by rfl)) (goodIn_sub (fun _ h => List.mem_cons_of_mem _ (List.mem_append_right _ h)) (by rfl))
set_option maxRecDepth 20000 in
theorem gL_holds_L_taken : GoodIn wsL_holds (va_wsS RL 130 yL_taken wsL_taken) := goodIn_app (goodIn_r _ [119, 120, 52] (by rfl) (by rfl)) ggL_holds_L_taken
set_option maxRecDepth 20000 in
theorem ggL_holds_L_disputed : GoodIn wsL_holds wsL_disputed := goodIn_ca (goodIn_r _ [129, 54, 55, 130, 131, 132, 4, 133, 43, 134, 66, 67, 68, 69, 64, 65, 44, 180, 181, 182, 183, 193, 194, 195, 196, 197, 198, 199, 200, 201, 202, 203, 204] (by rfl) (by rfl)) (goodIn_sub (fun _ h => List.mem_cons_of_mem _ (List.mem_append_right _ h)) (by rfl))
set_option maxRecDepth 20000 in
theorem gL_holds_L_disputed : GoodIn wsL_holds (va_wsS RL 132 yL_disputed wsL_disputed) := goodIn_app (goodIn_r _ [127, 128, 52] (by rfl) (by rfl)) ggL_holds_L_disputed
set_option maxRecDepth 20000 in
theorem ggL_holds_L_written : GoodIn wsL_holds wsL_written := goodIn_ca (goodIn_r _ [137, 54, 55, 138, 139, 140, 4, 141, 43, 142, 66, 67, 68, 69, 64, 65, 44, 180, 181, 182, 183, 193, 194, 195, 196, 197, 198, 199, 200, 201, 202, 203, 204] (by rfl) (by rfl)) (goodIn_sub (fun _ h => List.mem_cons_of_mem _ (List.mem_append_right _ h)) (by rfl))
set_option maxRecDepth 20000 in
theorem gL_holds_L_written : GoodIn wsL_holds (va_wsS RL 134 yL_written wsL_written) := goodIn_app (goodIn_r _ [135, 136, 52] (by rfl) (by rfl)) ggL_holds_L_written
set_option maxRecDepth 20000 in
theorem ggL_holds_L_due : GoodIn wsL_holds wsL_due := goodIn_ca (goodIn_r _ [145, 54, 55, 146, 147, 148, 4, 149, 43, 150, 66, 67, 68, 69, 64, 65, 44, 151, 152, 153, 112, 154, 155, 156, 110, 111, 113, 114, 115, 116, 117, 118, 157, 158, 159, 160, 161, 180, 181, 182, 183, 193, 194, 195, 196, 197, 198, 199, 200, 201, 202, 203, 204] (by rfl) (by rfl)) (goodIn_sub (fun _ h => List.mem_cons_of_mem _ (List.mem_append_right _ h)) (by rfl))
set_option maxRecDepth 20000 in
theorem gL_holds_L_due : GoodIn wsL_holds (va_wsS RL 126 yL_due wsL_due) := goodIn_app (goodIn_r _ [143, 144, 52] (by rfl) (by rfl)) ggL_holds_L_due
set_option maxRecDepth 20000 in
theorem ggL_holds_L_unapplied : GoodIn wsL_holds wsL_unapplied := goodIn_ca (goodIn_r _ [164, 54, 55, 165, 166, 167, 4, 168, 6, 23, 60, 61, 62, 63, 64, 65, 49, 180, 181, 182, 183, 184, 185, 186, 187, 188, 189, 190, 191, 192] (by rfl) (by rfl)) (goodIn_sub (fun _ h => List.mem_cons_of_mem _ (List.mem_append_right _ h)) (by rfl))
set_option maxRecDepth 20000 in
theorem gL_holds_L_unapplied : GoodIn wsL_holds (va_wsS RL 146 yL_unapplied wsL_unapplied) := goodIn_app (goodIn_r _ [162, 163, 52] (by rfl) (by rfl)) ggL_holds_L_unapplied
set_option maxRecDepth 20000 in
theorem ggL_holds_L_openOf : GoodIn wsL_holds wsL_openOf := goodIn_ca (goodIn_r _ [171, 54, 55, 172, 173, 174, 4, 175, 43, 44, 176, 177, 178, 179, 64, 65, 109, 110, 111, 112, 113, 114, 115, 116, 117, 118, 180, 181, 182, 183, 193, 194, 195, 196, 197, 198, 199, 200, 201, 202, 203, 204] (by rfl) (by rfl)) (goodIn_sub (fun _ h => List.mem_cons_of_mem _ (List.mem_append_right _ h)) (by rfl))
set_option maxRecDepth 20000 in
theorem gL_holds_L_openOf : GoodIn wsL_holds (va_wsS RL 137 yL_openOf wsL_openOf) := goodIn_app (goodIn_r _ [169, 170, 52] (by rfl) (by rfl)) ggL_holds_L_openOf
set_option maxRecDepth 20000 in
theorem ggL_comesAndGoes_X3_receipts : GoodIn wsL_comesAndGoes wsX3_receipts := goodIn_r _ [6, 7, 8, 272, 273, 274, 275, 276, 277, 278, 279, 280, 281, 282, 283, 284] (by rfl) (by rfl)
set_option maxRecDepth 20000 in
theorem gL_comesAndGoes_X3_receipts : GoodIn wsL_comesAndGoes (wsV RL 86 RX3 yX3_receipts wsX3_receipts) := goodIn_app (goodIn_r _ [2, 3, 4, 5] (by rfl) (by rfl)) ggL_comesAndGoes_X3_receipts
set_option maxRecDepth 20000 in
theorem ggL_comesAndGoes_X3_bills : GoodIn wsL_comesAndGoes wsX3_bills := goodIn_r _ [12, 13, 14, 272, 273, 274, 275, 285, 286, 287, 288, 289, 290, 291, 292, 293, 294, 295, 296] (by rfl) (by rfl)
set_option maxRecDepth 20000 in
theorem gL_comesAndGoes_X3_bills : GoodIn wsL_comesAndGoes (wsV RL 90 RX3 yX3_bills wsX3_bills) := goodIn_app (goodIn_r _ [9, 10, 11, 5] (by rfl) (by rfl)) ggL_comesAndGoes_X3_bills
set_option maxRecDepth 20000 in
theorem ggL_comesAndGoes_L_open : GoodIn wsL_comesAndGoes wsL_open := goodIn_ca (goodIn_r _ [18, 19, 20, 21, 22, 23, 5, 24, 13, 25, 26, 27, 28, 29, 30, 14, 31, 32, 33, 34, 35, 36, 37, 38, 39, 40, 272, 273, 274, 275, 285, 286, 287, 288, 289, 290, 291, 292, 293, 294, 295, 296] (by rfl) (by rfl)) (goodIn_sub (fun _ h => List.mem_cons_of_mem _ (List.mem_append_left _ (List.mem_append_left _ (List.mem_append_right _ h)))) (by rfl))
set_option maxRecDepth 20000 in
theorem gL_comesAndGoes_L_open : GoodIn wsL_comesAndGoes (va_wsS RL 124 yL_open wsL_open) := goodIn_app (goodIn_r _ [15, 16, 17] (by rfl) (by rfl)) ggL_comesAndGoes_L_open
set_option maxRecDepth 20000 in
theorem ggL_comesAndGoes_L_paid : GoodIn wsL_comesAndGoes wsL_paid := goodIn_ca (goodIn_r _ [43, 19, 20, 44, 45, 46, 5, 47, 13, 48, 25, 26, 27, 28, 29, 30, 14, 272, 273, 274, 275, 285, 286, 287, 288, 289, 290, 291, 292, 293, 294, 295, 296] (by rfl) (by rfl)) (goodIn_sub (fun _ h => List.mem_cons_of_mem _ (List.mem_append_left _ (List.mem_append_left _ (List.mem_append_right _ h)))) (by rfl))
set_option maxRecDepth 20000 in
theorem gL_comesAndGoes_L_paid : GoodIn wsL_comesAndGoes (va_wsS RL 128 yL_paid wsL_paid) := goodIn_app (goodIn_r _ [41, 42, 17] (by rfl) (by rfl)) ggL_comesAndGoes_L_paid
set_option maxRecDepth 20000 in
theorem ggL_comesAndGoes_L_taken : GoodIn wsL_comesAndGoes wsL_taken := goodIn_ca (goodIn_r _ [51, 19, 20, 52, 53, 54, 5, 55, 13, 56, 25, 26, 27, 28, 29, 30, 14, 272, 273, 274, 275, 285, 286, 287, 288, 289, 290, 291, 292, 293, 294, 295, 296] (by rfl) (by rfl)) (goodIn_sub (fun _ h => List.mem_cons_of_mem _ (List.mem_append_left _ (List.mem_append_left _ (List.mem_append_right _ h)))) (by rfl))
set_option maxRecDepth 20000 in
theorem gL_comesAndGoes_L_taken : GoodIn wsL_comesAndGoes (va_wsS RL 130 yL_taken wsL_taken) := goodIn_app (goodIn_r _ [49, 50, 17] (by rfl) (by rfl)) ggL_comesAndGoes_L_taken
set_option maxRecDepth 20000 in
theorem ggL_comesAndGoes_L_receives : GoodIn wsL_comesAndGoes wsL_receives := goodIn_ca (goodIn_ca (goodIn_ca (goodIn_r _ [59, 19, 60, 61, 20, 62, 63, 64, 65, 66, 5, 67, 68, 69, 70, 7, 8, 71, 72, 73, 29, 30, 74, 75, 76, 77, 78, 79, 80, 81, 82, 83, 84, 85, 86, 87, 88, 89, 90, 91, 92, 13, 14, 93, 94, 95, 96, 97, 34, 98, 99, 100, 101, 102, 32, 33, 35, 36, 37, 38, 39, 40, 103, 104, 105, 106, 107, 108, 109, 110, 111, 48, 112, 113, 114, 115, 116, 117, 118, 119, 120, 121, 122, 123, 124, 125, 126, 127, 128, 129, 130, 131, 132, 133, 134, 135, 136, 137, 138, 139, 140, 141, 142, 143, 144, 145, 146, 147, 148, 149, 150, 151, 152, 153, 154, 155, 156, 157, 158, 159, 160, 161, 162, 163, 164, 165, 166, 167, 168, 169, 170, 171, 172, 173, 174, 175, 176, 177, 178, 179, 180, 181, 182, 183, 184, 185, 186, 187, 188, 189, 190, 191, 192, 272, 273, 274, 275, 276, 277, 278, 279, 280, 281, 282, 283, 284, 285, 286, 287, 288, 289, 290, 291, 292, 293, 294, 295, 296, 297, 298, 299, 300] (by rfl) (by rfl)) (goodIn_sub (fun _ h => List.mem_cons_of_mem _ (List.mem_append_left _ (List.mem_append_right _ h))) (by rfl))) (goodIn_sub (fun _ h => List.mem_cons_of_mem _ (List.mem_append_left _ (List.mem_append_left _ (List.mem_append_right _ h)))) (by rfl))) (goodIn_sub (fun _ h => List.mem_cons_of_mem _ (List.mem_append_right _ h)) (by rfl))
set_option maxRecDepth 20000 in
theorem gL_comesAndGoes_L_receives : GoodIn wsL_comesAndGoes (va_wsS RL 99 yL_receives wsL_receives) := goodIn_app (goodIn_r _ [57, 58, 17] (by rfl) (by rfl)) ggL_comesAndGoes_L_receives
set_option maxRecDepth 20000 in
theorem ggL_comesAndGoes_L_unapplied : GoodIn wsL_comesAndGoes wsL_unapplied := goodIn_ca (goodIn_r _ [195, 19, 20, 196, 197, 198, 5, 199, 7, 93, 200, 201, 202, 203, 29, 30, 8, 272, 273, 274, 275, 276, 277, 278, 279, 280, 281, 282, 283, 284] (by rfl) (by rfl)) (goodIn_sub (fun _ h => List.mem_cons_of_mem _ (List.mem_append_left _ (List.mem_append_left _ (List.mem_append_right _ h)))) (by rfl))
set_option maxRecDepth 20000 in
theorem gL_comesAndGoes_L_unapplied : GoodIn wsL_comesAndGoes (va_wsS RL 146 yL_unapplied wsL_unapplied) := goodIn_app (goodIn_r _ [193, 194, 17] (by rfl) (by rfl)) ggL_comesAndGoes_L_unapplied
set_option maxRecDepth 20000 in
theorem ggL_comesAndGoes_L_customer : GoodIn wsL_comesAndGoes wsL_customer := goodIn_ca (goodIn_r _ [206, 19, 20, 207, 208, 209, 5, 210, 7, 92, 200, 201, 202, 203, 29, 30, 8, 272, 273, 274, 275, 276, 277, 278, 279, 280, 281, 282, 283, 284] (by rfl) (by rfl)) (goodIn_sub (fun _ h => List.mem_cons_of_mem _ (List.mem_append_left _ (List.mem_append_left _ (List.mem_append_right _ h)))) (by rfl))
set_option maxRecDepth 20000 in
theorem gL_comesAndGoes_L_customer : GoodIn wsL_comesAndGoes (va_wsS RL 141 yL_customer wsL_customer) := goodIn_app (goodIn_r _ [204, 205, 17] (by rfl) (by rfl)) ggL_comesAndGoes_L_customer
set_option maxRecDepth 20000 in
theorem ggL_comesAndGoes_L_openOf : GoodIn wsL_comesAndGoes wsL_openOf := goodIn_ca (goodIn_r _ [213, 19, 20, 214, 215, 216, 5, 217, 13, 14, 218, 71, 72, 73, 29, 30, 31, 32, 33, 34, 35, 36, 37, 38, 39, 40, 272, 273, 274, 275, 285, 286, 287, 288, 289, 290, 291, 292, 293, 294, 295, 296] (by rfl) (by rfl)) (goodIn_sub (fun _ h => List.mem_cons_of_mem _ (List.mem_append_left _ (List.mem_append_left _ (List.mem_append_right _ h)))) (by rfl))
set_option maxRecDepth 20000 in
theorem gL_comesAndGoes_L_openOf : GoodIn wsL_comesAndGoes (va_wsS RL 137 yL_openOf wsL_openOf) := goodIn_app (goodIn_r _ [211, 212, 17] (by rfl) (by rfl)) ggL_comesAndGoes_L_openOf
set_option maxRecDepth 20000 in
theorem ggL_comesAndGoes_L_applies : GoodIn wsL_comesAndGoes wsL_applies := goodIn_ca (goodIn_ca (goodIn_r _ [221, 19, 61, 20, 63, 222, 223, 224, 5, 225, 68, 69, 7, 92, 93, 200, 201, 202, 203, 29, 30, 8, 226, 227, 228, 229, 230, 142, 143, 144, 145, 146, 147, 148, 149, 150, 151, 13, 14, 152, 153, 154, 155, 111, 156, 157, 158, 159, 160, 161, 162, 103, 104, 105, 34, 106, 101, 102, 32, 33, 35, 36, 37, 38, 39, 40, 112, 113, 114, 115, 116, 117, 118, 119, 120, 121, 163, 164, 165, 166, 167, 168, 169, 170, 171, 172, 173, 174, 175, 176, 177, 178, 179, 180, 181, 182, 183, 184, 185, 186, 187, 188, 107, 108, 109, 110, 48, 122, 123, 124, 125, 126, 127, 128, 129, 82, 130, 131, 132, 133, 87, 134, 135, 136, 189, 190, 191, 192, 272, 273, 274, 275, 276, 277, 278, 279, 280, 281, 282, 283, 284, 297, 298, 299, 300, 285, 286, 287, 288, 289, 290, 291, 292, 293, 294, 295, 296] (by rfl) (by rfl)) (goodIn_sub (fun _ h => List.mem_cons_of_mem _ (List.mem_append_left _ (List.mem_append_right _ h))) (by rfl))) (goodIn_sub (fun _ h => List.mem_cons_of_mem _ (List.mem_append_left _ (List.mem_append_left _ (List.mem_append_right _ h)))) (by rfl))
set_option maxRecDepth 20000 in
theorem gL_comesAndGoes_L_applies : GoodIn wsL_comesAndGoes (va_wsS RL 107 yL_applies wsL_applies) := goodIn_app (goodIn_r _ [219, 220, 17] (by rfl) (by rfl)) ggL_comesAndGoes_L_applies
set_option maxRecDepth 20000 in
theorem ggL_comesAndGoes_L_disputed : GoodIn wsL_comesAndGoes wsL_disputed := goodIn_ca (goodIn_r _ [233, 19, 20, 234, 235, 236, 5, 237, 13, 238, 25, 26, 27, 28, 29, 30, 14, 272, 273, 274, 275, 285, 286, 287, 288, 289, 290, 291, 292, 293, 294, 295, 296] (by rfl) (by rfl)) (goodIn_sub (fun _ h => List.mem_cons_of_mem _ (List.mem_append_left _ (List.mem_append_left _ (List.mem_append_right _ h)))) (by rfl))
set_option maxRecDepth 20000 in
theorem gL_comesAndGoes_L_disputed : GoodIn wsL_comesAndGoes (va_wsS RL 132 yL_disputed wsL_disputed) := goodIn_app (goodIn_r _ [231, 232, 17] (by rfl) (by rfl)) ggL_comesAndGoes_L_disputed
set_option maxRecDepth 20000 in
theorem ggL_comesAndGoes_L_bounces : GoodIn wsL_comesAndGoes wsL_bounces := goodIn_ca (goodIn_ca (goodIn_r _ [241, 19, 61, 20, 63, 242, 243, 244, 5, 245, 68, 69, 7, 246, 13, 14, 200, 201, 202, 203, 29, 30, 8, 226, 227, 228, 229, 230, 247, 248, 249, 82, 250, 132, 134, 135, 136, 251, 252, 253, 254, 131, 255, 256, 257, 34, 258, 37, 126, 38, 141, 259, 260, 261, 262, 39, 40, 263, 264, 265, 266, 133, 267, 268, 269, 270, 87, 271, 272, 273, 274, 275, 276, 277, 278, 279, 280, 281, 282, 283, 284, 285, 286, 287, 288, 289, 290, 291, 292, 293, 294, 295, 296] (by rfl) (by rfl)) (goodIn_sub (fun _ h => List.mem_cons_of_mem _ (List.mem_append_left _ (List.mem_append_right _ h))) (by rfl))) (goodIn_sub (fun _ h => List.mem_cons_of_mem _ (List.mem_append_left _ (List.mem_append_left _ (List.mem_append_right _ h)))) (by rfl))
set_option maxRecDepth 20000 in
theorem gL_comesAndGoes_L_bounces : GoodIn wsL_comesAndGoes (va_wsS RL 114 yL_bounces wsL_bounces) := goodIn_app (goodIn_r _ [239, 240, 17] (by rfl) (by rfl)) ggL_comesAndGoes_L_bounces
set_option maxRecDepth 20000 in
theorem ggL_law_X3_init : GoodIn wsL_law wsX3_init := goodIn_r _ [6, 7, 8, 9, 10, 11, 12, 13, 14, 15, 16, 17, 18, 19, 20, 21, 22, 23, 24, 25, 3, 26, 27, 28, 29, 30, 31, 32, 33, 34, 35, 36, 37, 38, 39, 40, 41, 42, 43, 44, 45, 46, 47, 48, 49, 50, 51, 52, 53, 54, 439, 440, 441, 442, 443, 444, 445, 446, 447, 448, 449, 450, 435, 436, 437, 438, 451, 452, 453, 454, 455, 456, 457, 458, 459, 460, 461, 462, 463] (by rfl) (by rfl)
set_option maxRecDepth 20000 in
theorem gL_law_X3_init : GoodIn wsL_law (wsX3_init) := ggL_law_X3_init
set_option maxRecDepth 20000 in
theorem ggL_law_L_drawn : GoodIn wsL_law wsL_drawn := goodIn_r _ [58, 59, 60] (by rfl) (by rfl)
set_option maxRecDepth 20000 in
theorem gL_law_L_drawn : GoodIn wsL_law (va_wsS RL 169 yL_drawn wsL_drawn) := goodIn_app (goodIn_r _ [55, 56, 57] (by rfl) (by rfl)) ggL_law_L_drawn
set_option maxRecDepth 20000 in
theorem ggL_law_X3_bills : GoodIn wsL_law wsX3_bills := goodIn_r _ [64, 13, 65, 435, 436, 437, 438, 439, 440, 441, 442, 443, 444, 445, 446, 447, 448, 449, 450] (by rfl) (by rfl)
set_option maxRecDepth 20000 in
theorem gL_law_X3_bills : GoodIn wsL_law (wsV RL 90 RX3 yX3_bills wsX3_bills) := goodIn_app (goodIn_r _ [61, 62, 63, 2] (by rfl) (by rfl)) ggL_law_X3_bills
set_option maxRecDepth 20000 in
theorem ggL_law_L_refuses : GoodIn wsL_law wsL_refuses := goodIn_ca (goodIn_ca (goodIn_ca (goodIn_r _ [68, 69, 70, 71, 72, 73, 74, 75, 2, 76, 17, 77, 61, 62, 63, 64, 13, 65, 78, 79, 57, 80, 81, 82, 83, 84, 85, 86, 87, 88, 89, 90, 22, 91, 92, 93, 94, 95, 96, 97, 98, 99, 100, 101, 102, 103, 104, 105, 106, 107, 12, 108, 109, 26, 27, 28, 29, 30, 33, 35, 110, 111, 112, 113, 114, 115, 116, 117, 118, 119, 16, 120, 121, 40, 41, 43, 122, 123, 124, 125, 126, 127, 128, 129, 130, 131, 132, 133, 134, 135, 136, 31, 32, 34, 36, 137, 138, 139, 140, 141, 142, 143, 144, 145, 146, 147, 148, 149, 150, 151, 152, 153, 154, 155, 156, 157, 158, 159, 160, 161, 47, 48, 42, 162, 163, 164, 165, 166, 167, 168, 169, 170, 171, 172, 173, 174, 175, 176, 21, 177, 178, 179, 180, 181, 182, 183, 184, 20, 185, 186, 54, 187, 188, 189, 190, 52, 53, 191, 192, 193, 194, 195, 196, 197, 198, 199, 200, 201, 202, 203, 204, 205, 206, 207, 208, 209, 210, 211, 212, 213, 214, 215, 216, 217, 218, 219, 220, 221, 222, 223, 224, 225, 226, 227, 228, 229, 230, 231, 232, 233, 234, 235, 236, 237, 238, 239, 240, 241, 242, 243, 244, 245, 246, 247, 248, 44, 249, 250, 251, 252, 253, 254, 255, 256, 257, 258, 259, 260, 261, 262, 263, 264, 265, 266, 267, 268, 269, 270, 271, 272, 273, 274, 275, 276, 277, 278, 279, 280, 46, 281, 282, 283, 284, 285, 286, 287, 288, 289, 290, 291, 292, 293, 294, 295, 296, 297, 298, 299, 300, 301, 302, 303, 304, 305, 306, 307, 308, 309, 310, 311, 312, 313, 314, 315, 316, 317, 318, 319, 320, 321, 322, 323, 324, 325, 326, 327, 328, 329, 330, 331, 332, 333, 334, 335, 336, 337, 338, 339, 340, 341, 342, 343, 344, 345, 346, 347, 348, 349, 350, 351, 352, 353, 354, 355, 356, 357, 358, 359, 360, 361, 362, 363, 364, 365, 366, 367, 368, 369, 370, 371, 372, 373, 374, 375, 376, 377, 378, 379, 380, 381, 382, 383, 384, 385, 386, 387, 388, 435, 436, 437, 438, 451, 452, 453, 454, 455, 456, 457, 458, 459, 439, 440, 441, 442, 443, 444, 445, 446, 447, 448, 449, 450, 460, 461, 462, 463] (by rfl) (by rfl)) (goodIn_sub (fun _ h => List.mem_append_left _ (List.mem_append_left _ (List.mem_append_right _ h))) (by rfl))) (goodIn_sub (fun _ h => List.mem_append_left _ (List.mem_append_right _ h)) (by rfl))) (goodIn_sub (fun _ h => List.mem_append_right _ h) (by rfl))
set_option maxRecDepth 20000 in
theorem gL_law_L_refuses : GoodIn wsL_law (va_wsS RL 173 yL_refuses wsL_refuses) := goodIn_app (goodIn_r _ [66, 67, 57] (by rfl) (by rfl)) ggL_law_L_refuses
set_option maxRecDepth 20000 in
theorem ggL_law_L_act : GoodIn wsL_law wsL_act := goodIn_ca (goodIn_ca (goodIn_ca (goodIn_r _ [391, 78, 79, 57, 80, 81, 82, 83, 69, 70, 72, 84, 85, 86, 2, 87, 88, 89, 90, 13, 65, 22, 91, 92, 93, 94, 95, 96, 97, 98, 99, 100, 101, 102, 103, 104, 105, 106, 107, 12, 108, 109, 26, 27, 28, 29, 30, 33, 35, 110, 111, 112, 113, 114, 115, 116, 17, 77, 117, 118, 119, 16, 120, 121, 40, 41, 43, 122, 123, 124, 125, 126, 127, 128, 129, 130, 131, 132, 133, 134, 135, 136, 31, 32, 34, 36, 137, 138, 139, 140, 141, 142, 143, 144, 145, 146, 147, 148, 149, 150, 151, 152, 153, 154, 155, 156, 157, 158, 159, 160, 161, 47, 48, 42, 162, 163, 164, 165, 166, 167, 168, 169, 170, 171, 172, 173, 174, 175, 176, 21, 177, 178, 179, 180, 181, 182, 183, 184, 20, 185, 186, 54, 187, 188, 189, 190, 52, 53, 191, 192, 193, 194, 195, 196, 197, 198, 199, 200, 201, 202, 203, 204, 205, 206, 207, 208, 209, 210, 211, 212, 213, 214, 73, 74, 75, 76, 215, 216, 217, 218, 219, 220, 221, 222, 223, 224, 225, 226, 227, 228, 229, 230, 231, 232, 233, 234, 235, 236, 237, 238, 239, 240, 241, 242, 243, 244, 245, 246, 247, 248, 44, 249, 250, 251, 252, 253, 254, 255, 256, 257, 258, 259, 260, 261, 262, 263, 264, 265, 266, 267, 268, 269, 270, 271, 272, 273, 274, 275, 276, 277, 278, 279, 280, 46, 61, 62, 63, 64, 331, 332, 333, 334, 335, 336, 337, 288, 289, 290, 291, 292, 281, 282, 283, 284, 285, 286, 287, 293, 294, 295, 296, 297, 298, 299, 300, 435, 436, 437, 438, 439, 440, 441, 442, 443, 444, 445, 446, 447, 448, 449, 450, 451, 452, 453, 454, 455, 456, 457, 458, 459, 460, 461, 462, 463] (by rfl) (by rfl)) (goodIn_sub (fun _ h => List.mem_append_left _ (List.mem_append_left _ (List.mem_append_right _ h))) (by rfl))) (goodIn_sub (fun _ h => List.mem_append_left _ (List.mem_append_right _ h)) (by rfl))) (goodIn_sub (fun _ h => List.mem_append_right _ h) (by rfl))
set_option maxRecDepth 20000 in
theorem gL_law_L_act : GoodIn wsL_law (va_wsS RL 177 yL_act wsL_act) := goodIn_app (goodIn_r _ [389, 390, 57] (by rfl) (by rfl)) ggL_law_L_act
set_option maxRecDepth 20000 in
theorem ggL_law_L_alike : GoodIn wsL_law wsL_alike := goodIn_ca (goodIn_r _ [394, 61, 62, 63, 2, 64, 13, 65, 73, 74, 75, 76, 17, 77, 395, 396, 397, 398, 22, 399, 400, 401, 402, 403, 404, 405, 406, 16, 407, 121, 408, 409, 410, 411, 412, 413, 414, 415, 416, 127, 417, 418, 419, 420, 256, 421, 422, 423, 424, 425, 426, 427, 428, 46, 41, 301, 302, 57, 303, 81, 69, 304, 305, 306, 307, 289, 290, 291, 292, 94, 95, 308, 134, 135, 12, 136, 27, 31, 32, 34, 36, 316, 317, 318, 319, 320, 321, 322, 145, 323, 324, 325, 326, 327, 328, 329, 330, 331, 332, 333, 334, 335, 336, 337, 288, 309, 310, 311, 312, 313, 314, 315, 146, 147, 148, 149, 29, 133, 150, 151, 152, 153, 30, 361, 362, 363, 364, 365, 366, 367, 126, 222, 223, 224, 225, 375, 376, 377, 378, 379, 380, 381, 435, 436, 437, 438, 439, 440, 441, 442, 443, 444, 445, 446, 447, 448, 449, 450, 451, 452, 453, 454, 455, 456, 457, 458, 459] (by rfl) (by rfl)) (goodIn_sub (fun _ h => List.mem_append_left _ (List.mem_append_right _ h)) (by rfl))
set_option maxRecDepth 20000 in
theorem gL_law_L_alike : GoodIn wsL_law (va_wsS RL 180 yL_alike wsL_alike) := goodIn_app (goodIn_r _ [392, 393, 57] (by rfl) (by rfl)) ggL_law_L_alike
set_option maxRecDepth 20000 in
theorem ggL_law_L_holds : GoodIn wsL_law wsL_holds := goodIn_ca (goodIn_r _ [431, 399, 400, 401, 2, 402, 17, 403, 404, 405, 406, 16, 407, 121, 408, 409, 410, 411, 412, 413, 414, 415, 416, 127, 417, 418, 419, 420, 256, 421, 422, 423, 424, 425, 426, 427, 428, 46, 41, 61, 62, 63, 64, 13, 65, 73, 74, 75, 76, 77, 368, 369, 57, 370, 81, 69, 371, 372, 373, 374, 222, 223, 224, 225, 94, 95, 289, 290, 291, 292, 261, 262, 263, 264, 47, 162, 163, 164, 361, 362, 363, 364, 365, 366, 367, 126, 382, 383, 384, 385, 386, 387, 388, 230, 316, 317, 318, 319, 320, 321, 322, 145, 301, 302, 303, 304, 305, 306, 307, 308, 134, 135, 12, 136, 27, 31, 32, 34, 36, 323, 324, 325, 326, 327, 328, 329, 330, 331, 332, 333, 334, 335, 336, 337, 288, 338, 339, 340, 341, 342, 343, 344, 345, 309, 310, 311, 312, 313, 314, 315, 22, 146, 147, 148, 149, 29, 133, 150, 151, 152, 153, 30, 375, 376, 377, 378, 379, 380, 381, 346, 347, 348, 349, 350, 351, 352, 353, 91, 92, 93, 435, 436, 437, 438, 451, 452, 453, 454, 455, 456, 457, 458, 459, 439, 440, 441, 442, 443, 444, 445, 446, 447, 448, 449, 450] (by rfl) (by rfl)) (goodIn_sub (fun _ h => List.mem_append_left _ (List.mem_append_right _ h)) (by rfl))
set_option maxRecDepth 20000 in
theorem gL_law_L_holds : GoodIn wsL_law (va_wsS RL 184 yL_holds wsL_holds) := goodIn_app (goodIn_r _ [429, 430, 57] (by rfl) (by rfl)) ggL_law_L_holds
set_option maxRecDepth 20000 in
theorem ggL_law_L_comesAndGoes : GoodIn wsL_law wsL_comesAndGoes := goodIn_ca (goodIn_ca (goodIn_ca (goodIn_r _ [434, 3, 73, 74, 75, 2, 76, 17, 77, 61, 62, 63, 64, 13, 65, 301, 302, 57, 303, 81, 69, 304, 305, 306, 307, 289, 290, 291, 292, 94, 95, 308, 134, 135, 12, 136, 27, 31, 32, 34, 36, 316, 317, 318, 319, 320, 321, 322, 145, 323, 324, 325, 326, 327, 328, 329, 330, 110, 111, 112, 82, 83, 70, 72, 113, 114, 115, 116, 88, 89, 90, 91, 92, 93, 96, 97, 98, 99, 100, 117, 118, 119, 16, 120, 121, 40, 41, 43, 122, 123, 124, 125, 126, 127, 128, 129, 130, 131, 132, 109, 28, 26, 133, 137, 138, 139, 140, 141, 142, 143, 144, 22, 146, 147, 148, 149, 29, 150, 151, 152, 153, 30, 154, 155, 156, 157, 33, 158, 159, 160, 161, 47, 48, 42, 162, 163, 164, 165, 166, 167, 168, 35, 169, 170, 171, 172, 173, 174, 175, 176, 21, 177, 178, 179, 180, 181, 182, 183, 184, 20, 185, 186, 54, 187, 188, 189, 190, 52, 53, 191, 192, 193, 194, 195, 196, 197, 198, 199, 200, 201, 202, 203, 204, 205, 206, 207, 208, 209, 210, 211, 212, 213, 214, 375, 376, 377, 378, 379, 380, 381, 222, 223, 224, 225, 361, 362, 363, 364, 365, 366, 367, 346, 347, 348, 349, 350, 351, 352, 353, 231, 232, 233, 234, 235, 236, 237, 226, 227, 228, 229, 230, 331, 332, 333, 334, 335, 336, 337, 288, 249, 250, 251, 252, 253, 254, 255, 256, 257, 258, 259, 260, 261, 262, 263, 264, 265, 266, 267, 268, 269, 270, 271, 272, 273, 274, 275, 276, 277, 278, 279, 280, 46, 435, 436, 437, 438, 451, 452, 453, 454, 455, 456, 457, 458, 459, 439, 440, 441, 442, 443, 444, 445, 446, 447, 448, 449, 450, 460, 461, 462, 463] (by rfl) (by rfl)) (goodIn_sub (fun _ h => List.mem_append_left _ (List.mem_append_right _ h)) (by rfl))) (goodIn_sub (fun _ h => List.mem_append_left _ (List.mem_append_left _ (List.mem_append_right _ h))) (by rfl))) (goodIn_sub (fun _ h => List.mem_append_right _ h) (by rfl))
set_option maxRecDepth 20000 in
theorem gL_law_L_comesAndGoes : GoodIn wsL_law (va_wsS RL 188 yL_comesAndGoes wsL_comesAndGoes) := goodIn_app (goodIn_r _ [432, 433, 57] (by rfl) (by rfl)) ggL_law_L_comesAndGoes
set_option maxRecDepth 20000 in
theorem kL_refuses_15 : Cond.constant RL 15 (-2000000001) ∈ wsL_refuses := List.mem_of_getElem? (i := 1) (by rfl)
set_option maxRecDepth 20000 in
theorem kL_refuses_18 : Cond.constant RL 18 (-2000000002) ∈ wsL_refuses := List.mem_of_getElem? (i := 2) (by rfl)
set_option maxRecDepth 20000 in
theorem kL_refuses_98 : Cond.constant RL 98 (1000001) ∈ wsL_refuses := List.mem_of_getElem? (i := 3) (by rfl)
set_option maxRecDepth 20000 in
theorem kL_refuses_21 : Cond.constant RL 21 (-2000000003) ∈ wsL_refuses := List.mem_of_getElem? (i := 4) (by rfl)
set_option maxRecDepth 20000 in
theorem kL_act_15 : Cond.constant RL 15 (-2000000001) ∈ wsL_act := List.mem_of_getElem? (i := 8) (by rfl)
set_option maxRecDepth 20000 in
theorem kL_act_18 : Cond.constant RL 18 (-2000000002) ∈ wsL_act := List.mem_of_getElem? (i := 9) (by rfl)
set_option maxRecDepth 20000 in
theorem kL_act_21 : Cond.constant RL 21 (-2000000003) ∈ wsL_act := List.mem_of_getElem? (i := 10) (by rfl)
set_option maxRecDepth 20000 in
theorem kL_alike_15 : Cond.constant RL 15 (-2000000001) ∈ wsL_alike := List.mem_of_getElem? (i := 60) (by rfl)
set_option maxRecDepth 20000 in
theorem kL_holds_15 : Cond.constant RL 15 (-2000000001) ∈ wsL_holds := List.mem_of_getElem? (i := 55) (by rfl)
set_option maxRecDepth 20000 in
theorem kL_comesAndGoes_arrint : Cond.arrayClass .int ∈ wsL_comesAndGoes := List.mem_of_getElem? (i := 1) (by rfl)
set_option maxRecDepth 20000 in
theorem kL_comesAndGoes_15 : Cond.constant RL 15 (-2000000001) ∈ wsL_comesAndGoes := List.mem_of_getElem? (i := 20) (by rfl)
set_option maxRecDepth 20000 in
theorem kL_comesAndGoes_18 : Cond.constant RL 18 (-2000000002) ∈ wsL_comesAndGoes := List.mem_of_getElem? (i := 62) (by rfl)
set_option maxRecDepth 20000 in
theorem kL_comesAndGoes_21 : Cond.constant RL 21 (-2000000003) ∈ wsL_comesAndGoes := List.mem_of_getElem? (i := 63) (by rfl)

set_option maxRecDepth 20000 in
theorem ggL_law_X1_init : GoodIn wsL_law wsX1_init := goodIn_r _ [9, 10, 11, 12, 13, 14, 15, 16, 17, 18, 19, 20, 21, 22, 23, 24, 25, 449, 450, 451, 452, 453, 441, 442] (by decide +kernel) (by decide +kernel)
set_option maxRecDepth 20000 in
theorem gL_law_X1_init : GoodIn wsL_law (wsX1_init) := ggL_law_X1_init
set_option maxRecDepth 20000 in
theorem ggL_law_X2_init : GoodIn wsL_law wsX2_init := goodIn_r _ [28, 29, 11, 12, 23, 30, 31, 32, 443, 444, 445, 446, 447, 448] (by decide +kernel) (by decide +kernel)
set_option maxRecDepth 20000 in
theorem gL_law_X2_init : GoodIn wsL_law (wsX2_init) := ggL_law_X2_init
set_option maxRecDepth 20000 in
theorem ggL_law_L_build : GoodIn wsL_law wsL_build := goodIn_ca (goodIn_ca (goodIn_r _ [36, 37, 38, 39, 40, 41, 2, 42, 43, 44, 16, 45, 46, 47, 48, 49, 50, 51, 52, 53, 54, 55, 56, 57, 58, 15, 59, 60, 24, 441, 442, 449, 450, 451, 452, 453] (by decide +kernel) (by decide +kernel)) (goodIn_sub (fun _ h => List.mem_append_left _ (List.mem_append_left _ (List.mem_append_right _ h))) (by decide +kernel))) (goodIn_sub (fun _ h => List.mem_append_left _ (List.mem_append_right _ h)) (by decide +kernel))
set_option maxRecDepth 20000 in
theorem gL_law_L_build : GoodIn wsL_law (va_wsS RL 65 yL_build wsL_build) := goodIn_app (goodIn_of _ (by decide +kernel)) ggL_law_L_build
set_option maxRecDepth 20000 in
theorem ggL_law_X2_build : GoodIn wsL_law wsX2_build := goodIn_r _ [64, 65, 66, 23, 30, 67, 68, 69, 70, 71, 72, 5, 73, 74, 75, 76, 77, 443, 444, 445, 446, 447, 448] (by decide +kernel) (by decide +kernel)
set_option maxRecDepth 20000 in
theorem gL_law_X2_build : GoodIn wsL_law (wsV RL 70 RX2 yX2_build wsX2_build) := goodIn_app (goodIn_of _ (by decide +kernel)) ggL_law_X2_build
set_option maxRecDepth 20000 in
theorem ggL_law_X2_thrown : GoodIn wsL_law wsX2_thrown := goodIn_r _ [81, 65, 443, 444, 445, 446, 447, 448] (by decide +kernel) (by decide +kernel)
set_option maxRecDepth 20000 in
theorem gL_law_X2_thrown : GoodIn wsL_law (wsV RL 71 RX2 yX2_thrown wsX2_thrown) := goodIn_app (goodIn_of _ (by decide +kernel)) ggL_law_X2_thrown
set_option maxRecDepth 20000 in
theorem ggL_law_L_lay : GoodIn wsL_law wsL_lay := goodIn_ca (goodIn_ca (goodIn_ca (goodIn_r _ [84, 85, 37, 38, 86, 87, 88, 2, 89, 43, 44, 16, 90, 91, 92, 93, 94, 95, 96, 97, 98, 99, 48, 49, 50, 51, 52, 45, 46, 47, 100, 101, 102, 15, 103, 104, 25, 441, 442, 449, 450, 451, 452, 453] (by decide +kernel) (by decide +kernel)) (goodIn_sub (fun _ h => List.mem_append_left _ (List.mem_append_left _ (List.mem_append_right _ h))) (by decide +kernel))) (goodIn_sub (fun _ h => List.mem_append_right _ h) (by decide +kernel))) (goodIn_sub (fun _ h => List.mem_append_left _ (List.mem_append_right _ h)) (by decide +kernel))
set_option maxRecDepth 20000 in
theorem gL_law_L_lay : GoodIn wsL_law (va_wsS RL 75 yL_lay wsL_lay) := goodIn_app (goodIn_of _ (by decide +kernel)) ggL_law_L_lay
set_option maxRecDepth 20000 in
theorem ggL_law_X2_lay : GoodIn wsL_law wsX2_lay := goodIn_r _ [108, 65, 109, 23, 31, 67, 68, 69, 70, 110, 111, 112, 5, 113, 66, 71, 72, 73, 74, 75, 76, 77, 443, 444, 445, 446, 447, 448] (by decide +kernel) (by decide +kernel)
set_option maxRecDepth 20000 in
theorem gL_law_X2_lay : GoodIn wsL_law (wsV RL 78 RX2 yX2_lay wsX2_lay) := goodIn_app (goodIn_of _ (by decide +kernel)) ggL_law_X2_lay
set_option maxRecDepth 20000 in
theorem ggL_law_L_set : GoodIn wsL_law wsL_set := goodIn_ca (goodIn_ca (goodIn_r _ [116, 85, 37, 117, 118, 119, 2, 120, 16, 121, 90, 91, 92, 93, 94, 95, 96, 97, 98, 99, 53, 54, 55, 45, 46, 47, 48, 49, 50, 51, 52, 441, 442, 449, 450, 451, 452, 453] (by decide +kernel) (by decide +kernel)) (goodIn_sub (fun _ h => List.mem_append_right _ h) (by decide +kernel))) (goodIn_sub (fun _ h => List.mem_append_left _ (List.mem_append_right _ h)) (by decide +kernel))
set_option maxRecDepth 20000 in
theorem gL_law_L_set : GoodIn wsL_law (va_wsS RL 79 yL_set wsL_set) := goodIn_app (goodIn_of _ (by decide +kernel)) ggL_law_L_set
set_option maxRecDepth 20000 in
theorem ggL_law_X2_set : GoodIn wsL_law wsX2_set := goodIn_r _ [125, 65, 110, 111, 112, 5, 113, 66, 71, 72, 73, 74, 75, 76, 77, 126, 127, 128, 129, 30, 130, 131, 132, 133, 443, 444, 445, 446, 447, 448] (by decide +kernel) (by decide +kernel)
set_option maxRecDepth 20000 in
theorem gL_law_X2_set : GoodIn wsL_law (wsV RL 81 RX2 yX2_set wsX2_set) := goodIn_app (goodIn_of _ (by decide +kernel)) ggL_law_X2_set
set_option maxRecDepth 20000 in
theorem ggL_law_L_flush : GoodIn wsL_law wsL_flush := goodIn_ca (goodIn_r _ [136, 85, 137, 138, 139, 2, 140, 16, 121, 90, 91, 92, 93, 94, 95, 96, 97, 98, 99, 441, 442, 449, 450, 451, 452, 453] (by decide +kernel) (by decide +kernel)) (goodIn_sub (fun _ h => List.mem_append_right _ h) (by decide +kernel))
set_option maxRecDepth 20000 in
theorem gL_law_L_flush : GoodIn wsL_law (va_wsS RL 82 yL_flush wsL_flush) := goodIn_app (goodIn_of _ (by decide +kernel)) ggL_law_L_flush
set_option maxRecDepth 20000 in
theorem ggL_law_X2_flush : GoodIn wsL_law wsX2_flush := goodIn_r _ [144, 65, 110, 111, 112, 5, 113, 66, 71, 72, 73, 74, 75, 76, 77, 126, 127, 128, 129, 30, 130, 131, 132, 133, 443, 444, 445, 446, 447, 448] (by decide +kernel) (by decide +kernel)
set_option maxRecDepth 20000 in
theorem gL_law_X2_flush : GoodIn wsL_law (wsV RL 85 RX2 yX2_flush wsX2_flush) := goodIn_app (goodIn_of _ (by decide +kernel)) ggL_law_X2_flush
set_option maxRecDepth 20000 in
theorem ggL_law_L_scrape : GoodIn wsL_law wsL_scrape := goodIn_ca (goodIn_r _ [147, 85, 148, 149, 150, 2, 151, 16, 152, 153, 154, 155, 156, 157, 95, 96, 97, 98, 99, 441, 442, 449, 450, 451, 452, 453] (by decide +kernel) (by decide +kernel)) (goodIn_sub (fun _ h => List.mem_append_right _ h) (by decide +kernel))
set_option maxRecDepth 20000 in
theorem gL_law_L_scrape : GoodIn wsL_law (va_wsS RL 86 yL_scrape wsL_scrape) := goodIn_app (goodIn_of _ (by decide +kernel)) ggL_law_L_scrape
set_option maxRecDepth 20000 in
theorem ggL_law_X2_scrape : GoodIn wsL_law wsX2_scrape := goodIn_r _ [161, 65, 162, 163, 164, 5, 165, 109, 71, 72, 73, 74, 75, 76, 77, 166, 167, 168, 169, 31, 170, 171, 172, 173, 443, 444, 445, 446, 447, 448] (by decide +kernel) (by decide +kernel)
set_option maxRecDepth 20000 in
theorem gL_law_X2_scrape : GoodIn wsL_law (wsV RL 88 RX2 yX2_scrape wsX2_scrape) := goodIn_app (goodIn_of _ (by decide +kernel)) ggL_law_X2_scrape
set_option maxRecDepth 20000 in
theorem ggL_law_L_steal : GoodIn wsL_law wsL_steal := goodIn_ca (goodIn_ca (goodIn_r _ [176, 85, 37, 177, 178, 179, 2, 180, 16, 152, 153, 154, 155, 156, 157, 95, 96, 97, 98, 99, 45, 46, 47, 48, 49, 50, 51, 52, 441, 442, 449, 450, 451, 452, 453] (by decide +kernel) (by decide +kernel)) (goodIn_sub (fun _ h => List.mem_append_right _ h) (by decide +kernel))) (goodIn_sub (fun _ h => List.mem_append_left _ (List.mem_append_right _ h)) (by decide +kernel))
set_option maxRecDepth 20000 in
theorem gL_law_L_steal : GoodIn wsL_law (va_wsS RL 89 yL_steal wsL_steal) := goodIn_app (goodIn_of _ (by decide +kernel)) ggL_law_L_steal
set_option maxRecDepth 20000 in
theorem ggL_law_X2_steal : GoodIn wsL_law wsX2_steal := goodIn_r _ [184, 65, 162, 163, 164, 5, 165, 109, 71, 72, 73, 74, 75, 76, 77, 166, 167, 168, 169, 31, 170, 171, 172, 173, 443, 444, 445, 446, 447, 448] (by decide +kernel) (by decide +kernel)
set_option maxRecDepth 20000 in
theorem gL_law_X2_steal : GoodIn wsL_law (wsV RL 92 RX2 yX2_steal wsX2_steal) := goodIn_app (goodIn_of _ (by decide +kernel)) ggL_law_X2_steal
set_option maxRecDepth 20000 in
theorem ggL_law_L_tank : GoodIn wsL_law wsL_tank := goodIn_ca (goodIn_r _ [187, 85, 188, 189, 190, 2, 191, 16, 121, 90, 91, 92, 93, 94, 95, 96, 97, 98, 99, 45, 46, 47, 441, 442, 449, 450, 451, 452, 453] (by decide +kernel) (by decide +kernel)) (goodIn_sub (fun _ h => List.mem_append_right _ h) (by decide +kernel))
set_option maxRecDepth 20000 in
theorem gL_law_L_tank : GoodIn wsL_law (va_wsS RL 93 yL_tank wsL_tank) := goodIn_app (goodIn_of _ (by decide +kernel)) ggL_law_L_tank
set_option maxRecDepth 20000 in
theorem ggL_law_X2_tank : GoodIn wsL_law wsX2_tank := goodIn_r _ [195, 65, 110, 111, 112, 5, 113, 66, 71, 72, 73, 126, 127, 128, 129, 30, 74, 75, 76, 77, 443, 444, 445, 446, 447, 448] (by decide +kernel) (by decide +kernel)
set_option maxRecDepth 20000 in
theorem gL_law_X2_tank : GoodIn wsL_law (wsV RL 95 RX2 yX2_tank wsX2_tank) := goodIn_app (goodIn_of _ (by decide +kernel)) ggL_law_X2_tank
set_option maxRecDepth 20000 in
theorem ggL_law_L_pipe : GoodIn wsL_law wsL_pipe := goodIn_ca (goodIn_r _ [198, 85, 199, 200, 201, 2, 202, 16, 153, 154, 155, 156, 157, 95, 96, 97, 98, 99, 45, 46, 47, 203, 204, 205, 15, 206, 25, 207, 208, 209, 210, 24, 211, 212, 213, 214, 215, 216, 217, 218, 219, 220, 441, 442, 449, 450, 451, 452, 453] (by decide +kernel) (by decide +kernel)) (goodIn_sub (fun _ h => List.mem_append_right _ h) (by decide +kernel))
set_option maxRecDepth 20000 in
theorem gL_law_L_pipe : GoodIn wsL_law (va_wsS RL 96 yL_pipe wsL_pipe) := goodIn_app (goodIn_of _ (by decide +kernel)) ggL_law_L_pipe
set_option maxRecDepth 20000 in
theorem ggL_law_X2_pipe : GoodIn wsL_law wsX2_pipe := goodIn_r _ [224, 65, 162, 163, 164, 5, 165, 109, 71, 72, 73, 225, 226, 227, 228, 229, 230, 231, 232, 233, 212, 213, 214, 234, 216, 217, 166, 167, 168, 169, 31, 235, 236, 237, 238, 126, 127, 128, 129, 30, 74, 75, 76, 77, 443, 444, 445, 446, 447, 448] (by decide +kernel) (by decide +kernel)
set_option maxRecDepth 20000 in
theorem gL_law_X2_pipe : GoodIn wsL_law (wsV RL 98 RX2 yX2_pipe wsX2_pipe) := goodIn_app (goodIn_of _ (by decide +kernel)) ggL_law_X2_pipe
set_option maxRecDepth 20000 in
theorem ggL_law_L_count : GoodIn wsL_law wsL_count := goodIn_ca (goodIn_r _ [241, 85, 242, 243, 244, 2, 245, 16, 45, 46, 47, 95, 96, 97, 98, 99, 246, 247, 248, 15, 249, 250, 60, 104, 251, 252, 253, 254, 24, 255, 256, 257, 258, 25, 259, 260, 261, 262, 263, 264, 265, 266, 441, 442, 449, 450, 451, 452, 453] (by decide +kernel) (by decide +kernel)) (goodIn_sub (fun _ h => List.mem_append_right _ h) (by decide +kernel))
set_option maxRecDepth 20000 in
theorem gL_law_L_count : GoodIn wsL_law (va_wsS RL 99 yL_count wsL_count) := goodIn_app (goodIn_of _ (by decide +kernel)) ggL_law_L_count
set_option maxRecDepth 20000 in
theorem ggL_law_X2_count : GoodIn wsL_law wsX2_count := goodIn_r _ [270, 65, 71, 72, 5, 73, 271, 272, 273, 274, 32, 66, 109, 275, 276, 277, 278, 126, 127, 128, 129, 30, 279, 280, 281, 282, 166, 167, 168, 169, 31, 74, 75, 76, 77, 443, 444, 445, 446, 447, 448] (by decide +kernel) (by decide +kernel)
set_option maxRecDepth 20000 in
theorem gL_law_X2_count : GoodIn wsL_law (wsV RL 101 RX2 yX2_count wsX2_count) := goodIn_app (goodIn_of _ (by decide +kernel)) ggL_law_X2_count
set_option maxRecDepth 20000 in
theorem ggL_law_L_reach : GoodIn wsL_law wsL_reach := goodIn_ca (goodIn_r _ [285, 85, 286, 287, 288, 2, 289, 16, 90, 91, 92, 93, 94, 95, 96, 97, 98, 99, 290, 291, 292, 15, 293, 60, 104, 25, 441, 442, 449, 450, 451, 452, 453] (by decide +kernel) (by decide +kernel)) (goodIn_sub (fun _ h => List.mem_append_right _ h) (by decide +kernel))
set_option maxRecDepth 20000 in
theorem gL_law_L_reach : GoodIn wsL_law (va_wsS RL 102 yL_reach wsL_reach) := goodIn_app (goodIn_of _ (by decide +kernel)) ggL_law_L_reach
set_option maxRecDepth 20000 in
theorem ggL_law_X2_reach : GoodIn wsL_law wsX2_reach := goodIn_r _ [297, 65, 66, 109, 110, 111, 112, 5, 113, 71, 72, 73, 74, 75, 76, 77, 166, 167, 168, 169, 31, 443, 444, 445, 446, 447, 448] (by decide +kernel) (by decide +kernel)
set_option maxRecDepth 20000 in
theorem gL_law_X2_reach : GoodIn wsL_law (wsV RL 104 RX2 yX2_reach wsX2_reach) := goodIn_app (goodIn_of _ (by decide +kernel)) ggL_law_X2_reach
set_option maxRecDepth 20000 in
theorem ggL_law_X1_suspect : GoodIn wsL_law wsX1_suspect := goodIn_r _ [301, 16, 157, 152, 441, 442, 449, 450, 451, 452, 453] (by decide +kernel) (by decide +kernel)
set_option maxRecDepth 20000 in
theorem gL_law_X1_suspect : GoodIn wsL_law (wsV RL 105 RX1 yX1_suspect wsX1_suspect) := goodIn_app (goodIn_of _ (by decide +kernel)) ggL_law_X1_suspect
set_option maxRecDepth 20000 in
theorem ggL_law_X2_suspect : GoodIn wsL_law wsX2_suspect := goodIn_r _ [305, 65, 109, 166, 167, 168, 5, 169, 31, 443, 444, 445, 446, 447, 448] (by decide +kernel) (by decide +kernel)
set_option maxRecDepth 20000 in
theorem gL_law_X2_suspect : GoodIn wsL_law (wsV RL 108 RX2 yX2_suspect wsX2_suspect) := goodIn_app (goodIn_of _ (by decide +kernel)) ggL_law_X2_suspect
set_option maxRecDepth 20000 in
theorem ggL_law_L_pass : GoodIn wsL_law wsL_pass := goodIn_ca (goodIn_r _ [308, 37, 309, 310, 311, 2, 312, 16, 45, 46, 47, 48, 49, 50, 51, 52, 313, 314, 315, 15, 316, 251, 252, 253, 254, 60, 24, 317, 318, 319, 320, 104, 250, 321, 322, 323, 324, 325, 326, 211, 212, 213, 214, 327, 328, 329, 215, 216, 217, 330, 331, 332, 333, 25, 207, 208, 209, 210, 218, 219, 220, 334, 335, 336, 337, 338, 339, 340, 341, 342, 343, 441, 442, 449, 450, 451, 452, 453] (by decide +kernel) (by decide +kernel)) (goodIn_sub (fun _ h => List.mem_append_left _ (List.mem_append_right _ h)) (by decide +kernel))
set_option maxRecDepth 20000 in
theorem gL_law_L_pass : GoodIn wsL_law (va_wsS RL 109 yL_pass wsL_pass) := goodIn_app (goodIn_of _ (by decide +kernel)) ggL_law_L_pass
set_option maxRecDepth 20000 in
theorem ggL_law_X2_pass : GoodIn wsL_law wsX2_pass := goodIn_r _ [347, 65, 71, 72, 5, 73, 74, 75, 76, 77, 275, 276, 277, 278, 66, 126, 127, 128, 129, 30, 348, 349, 350, 351, 352, 353, 354, 355, 109, 32, 234, 216, 213, 217, 356, 357, 358, 359, 233, 212, 214, 130, 131, 132, 133, 360, 361, 362, 363, 229, 230, 231, 232, 166, 167, 168, 169, 31, 235, 236, 237, 238, 170, 171, 172, 173, 443, 444, 445, 446, 447, 448] (by decide +kernel) (by decide +kernel)
set_option maxRecDepth 20000 in
theorem gL_law_X2_pass : GoodIn wsL_law (wsV RL 111 RX2 yX2_pass wsX2_pass) := goodIn_app (goodIn_of _ (by decide +kernel)) ggL_law_X2_pass
set_option maxRecDepth 20000 in
theorem ggL_law_L_foresee : GoodIn wsL_law wsL_foresee := goodIn_ca (goodIn_ca (goodIn_r _ [366, 37, 85, 367, 368, 369, 2, 370, 17, 16, 45, 46, 47, 48, 49, 50, 51, 52, 95, 96, 97, 98, 99, 371, 372, 373, 15, 374, 250, 60, 104, 24, 375, 68, 69, 70, 25, 313, 314, 315, 316, 251, 252, 253, 254, 317, 318, 319, 320, 321, 322, 323, 324, 325, 326, 211, 212, 213, 214, 327, 328, 329, 215, 216, 217, 330, 331, 332, 333, 207, 208, 209, 210, 218, 219, 220, 334, 335, 336, 337, 338, 339, 340, 341, 342, 343, 376, 256, 257, 258, 377, 441, 442, 449, 450, 451, 452, 453] (by decide +kernel) (by decide +kernel)) (goodIn_sub (fun _ h => List.mem_append_left _ (List.mem_append_right _ h)) (by decide +kernel))) (goodIn_sub (fun _ h => List.mem_append_right _ h) (by decide +kernel))
set_option maxRecDepth 20000 in
theorem gL_law_L_foresee : GoodIn wsL_law (va_wsS RL 112 yL_foresee wsL_foresee) := goodIn_app (goodIn_of _ (by decide +kernel)) ggL_law_L_foresee
set_option maxRecDepth 20000 in
theorem ggL_law_X2_foresee : GoodIn wsL_law wsX2_foresee := goodIn_r _ [381, 65, 71, 72, 5, 73, 74, 75, 76, 77, 382, 383, 384, 385, 386, 30, 387, 388, 389, 390, 391, 31, 32, 275, 276, 277, 278, 66, 126, 127, 128, 129, 279, 280, 281, 282, 109, 166, 167, 168, 169, 348, 349, 350, 351, 352, 353, 354, 355, 234, 216, 213, 217, 356, 357, 358, 359, 233, 212, 214, 130, 131, 132, 133, 360, 361, 362, 363, 229, 230, 231, 232, 235, 236, 237, 238, 170, 171, 172, 173, 392, 393, 394, 395, 67, 68, 69, 70, 443, 444, 445, 446, 447, 448] (by decide +kernel) (by decide +kernel)
set_option maxRecDepth 20000 in
theorem gL_law_X2_foresee : GoodIn wsL_law (wsV RL 114 RX2 yX2_foresee wsX2_foresee) := goodIn_app (goodIn_of _ (by decide +kernel)) ggL_law_X2_foresee
set_option maxRecDepth 20000 in
theorem ggL_law_L_advise : GoodIn wsL_law wsL_advise := goodIn_ca (goodIn_r _ [398, 37, 399, 400, 401, 2, 402, 17, 16, 157, 152, 45, 46, 47, 48, 49, 50, 51, 52, 371, 372, 373, 15, 374, 250, 60, 104, 24, 375, 68, 69, 70, 25, 313, 314, 315, 316, 251, 252, 253, 254, 317, 318, 319, 320, 321, 322, 323, 324, 325, 326, 211, 212, 213, 214, 327, 328, 329, 215, 216, 217, 330, 331, 332, 333, 207, 208, 209, 210, 218, 219, 220, 334, 335, 336, 337, 338, 339, 340, 341, 342, 343, 441, 442, 449, 450, 451, 452, 453] (by decide +kernel) (by decide +kernel)) (goodIn_sub (fun _ h => List.mem_append_left _ (List.mem_append_right _ h)) (by decide +kernel))
set_option maxRecDepth 20000 in
theorem gL_law_L_advise : GoodIn wsL_law (va_wsS RL 115 yL_advise wsL_advise) := goodIn_app (goodIn_of _ (by decide +kernel)) ggL_law_L_advise
set_option maxRecDepth 20000 in
theorem ggL_law_X2_advise : GoodIn wsL_law wsX2_advise := goodIn_r _ [406, 65, 109, 71, 72, 5, 73, 74, 75, 76, 77, 382, 383, 384, 385, 386, 30, 387, 388, 389, 390, 391, 31, 32, 348, 349, 350, 351, 352, 353, 354, 355, 66, 234, 216, 213, 217, 126, 127, 128, 129, 356, 357, 358, 359, 233, 212, 214, 130, 131, 132, 133, 360, 361, 362, 363, 229, 230, 231, 232, 166, 167, 168, 169, 235, 236, 237, 238, 170, 171, 172, 173, 275, 276, 277, 278, 392, 393, 394, 395, 67, 68, 69, 70, 443, 444, 445, 446, 447, 448] (by decide +kernel) (by decide +kernel)
set_option maxRecDepth 20000 in
theorem gL_law_X2_advise : GoodIn wsL_law (wsV RL 117 RX2 yX2_advise wsX2_advise) := goodIn_app (goodIn_of _ (by decide +kernel)) ggL_law_X2_advise
set_option maxRecDepth 20000 in
theorem ggL_law_L_sated : GoodIn wsL_law wsL_sated := goodIn_ca (goodIn_r _ [409, 85, 410, 411, 412, 2, 413, 17, 16, 90, 91, 92, 93, 94, 95, 96, 97, 98, 99, 371, 372, 373, 15, 374, 250, 60, 104, 24, 375, 68, 69, 70, 25, 414, 318, 319, 320, 321, 322, 323, 324, 325, 326, 211, 212, 213, 214, 327, 328, 329, 215, 216, 217, 330, 331, 332, 333, 207, 208, 209, 210, 218, 219, 220, 334, 335, 336, 337, 338, 339, 340, 341, 342, 343, 415, 264, 265, 266, 441, 442, 449, 450, 451, 452, 453] (by decide +kernel) (by decide +kernel)) (goodIn_sub (fun _ h => List.mem_append_right _ h) (by decide +kernel))
set_option maxRecDepth 20000 in
theorem gL_law_L_sated : GoodIn wsL_law (va_wsS RL 118 yL_sated wsL_sated) := goodIn_app (goodIn_of _ (by decide +kernel)) ggL_law_L_sated
set_option maxRecDepth 20000 in
theorem ggL_law_X2_sated : GoodIn wsL_law wsX2_sated := goodIn_r _ [419, 65, 110, 111, 112, 5, 113, 66, 71, 72, 73, 74, 75, 76, 77, 382, 383, 384, 385, 386, 30, 387, 388, 389, 390, 391, 31, 32, 352, 353, 354, 355, 109, 234, 216, 213, 217, 126, 127, 128, 129, 356, 357, 358, 359, 233, 212, 214, 130, 131, 132, 133, 360, 361, 362, 363, 229, 230, 231, 232, 166, 167, 168, 169, 235, 236, 237, 238, 170, 171, 172, 173, 392, 393, 394, 395, 67, 68, 69, 70, 443, 444, 445, 446, 447, 448] (by decide +kernel) (by decide +kernel)
set_option maxRecDepth 20000 in
theorem gL_law_X2_sated : GoodIn wsL_law (wsV RL 120 RX2 yX2_sated wsX2_sated) := goodIn_app (goodIn_of _ (by decide +kernel)) ggL_law_X2_sated
set_option maxRecDepth 20000 in
theorem ggL_law_X1_mean : GoodIn wsL_law wsX1_mean := goodIn_r _ [423, 16, 424, 377, 252, 253, 15, 254, 60, 24, 441, 442, 449, 450, 451, 452, 453] (by decide +kernel) (by decide +kernel)
set_option maxRecDepth 20000 in
theorem gL_law_X1_mean : GoodIn wsL_law (wsV RL 121 RX1 yX1_mean wsX1_mean) := goodIn_app (goodIn_of _ (by decide +kernel)) ggL_law_X1_mean
set_option maxRecDepth 20000 in
theorem ggL_law_X2_mean : GoodIn wsL_law wsX2_mean := goodIn_r _ [428, 65, 32, 275, 276, 277, 5, 278, 66, 126, 127, 128, 129, 30, 443, 444, 445, 446, 447, 448] (by decide +kernel) (by decide +kernel)
set_option maxRecDepth 20000 in
theorem gL_law_X2_mean : GoodIn wsL_law (wsV RL 125 RX2 yX2_mean wsX2_mean) := goodIn_app (goodIn_of _ (by decide +kernel)) ggL_law_X2_mean
set_option maxRecDepth 20000 in
theorem ggL_law_X1_digest : GoodIn wsL_law wsX1_digest := goodIn_r _ [432, 433, 434, 16, 94, 121, 157, 246, 247, 248, 15, 249, 250, 60, 104, 251, 252, 253, 254, 24, 255, 256, 257, 258, 25, 259, 260, 261, 262, 263, 264, 265, 266, 203, 204, 205, 206, 207, 208, 209, 210, 211, 212, 213, 214, 215, 216, 217, 218, 219, 220, 441, 442, 449, 450, 451, 452, 453] (by decide +kernel) (by decide +kernel)
set_option maxRecDepth 20000 in
theorem gL_law_X1_digest : GoodIn wsL_law (wsV RL 126 RX1 yX1_digest wsX1_digest) := goodIn_app (goodIn_of _ (by decide +kernel)) ggL_law_X1_digest
set_option maxRecDepth 20000 in
theorem ggL_law_X2_digest : GoodIn wsL_law wsX2_digest := goodIn_r _ [438, 65, 439, 440, 66, 109, 271, 272, 273, 5, 274, 32, 275, 276, 277, 278, 126, 127, 128, 129, 30, 279, 280, 281, 282, 166, 167, 168, 169, 31, 225, 226, 227, 228, 229, 230, 231, 232, 233, 212, 213, 214, 234, 216, 217, 235, 236, 237, 238, 443, 444, 445, 446, 447, 448] (by decide +kernel) (by decide +kernel)
set_option maxRecDepth 20000 in
theorem gL_law_X2_digest : GoodIn wsL_law (wsV RL 130 RX2 yX2_digest wsX2_digest) := goodIn_app (goodIn_of _ (by decide +kernel)) ggL_law_X2_digest

set_option maxRecDepth 20000 in
theorem ggL_law_X1_pass : GoodIn wsL_law wsX1_pass := goodIn_ca (goodIn_r _ [251, 20, 80, 81, 2, 82, 83, 84, 85, 86, 87, 241, 242, 243, 19, 244, 160, 161, 162, 163, 95, 27, 245, 210, 211, 212, 127, 159, 213, 214, 215, 216, 217, 218, 188, 5, 6, 7, 219, 220, 221, 189, 9, 10, 222, 223, 224, 225, 28, 184, 185, 186, 187, 190, 191, 192, 226, 227, 228, 229, 230, 231, 232, 233, 234, 235, 311, 312, 313, 314, 315, 316, 317] (by decide +kernel) (by decide +kernel)) (goodIn_sub (fun _ h => List.mem_append_left _ (List.mem_append_right _ h)) (by decide +kernel))
set_option maxRecDepth 20000 in
theorem gL_law_X1_pass : GoodIn wsL_law (wsV RL 105 RX1 yX1_pass wsX1_pass) := goodIn_app (goodIn_of _ (by decide +kernel)) ggL_law_X1_pass
set_option maxRecDepth 20000 in
theorem ggL_law_X3_pass : GoodIn wsL_law wsX3_pass := goodIn_r _ [255, 40, 69, 42, 102, 256, 257, 258, 259, 260, 261, 103, 262, 263, 70, 264, 265, 266, 267, 268, 67, 269, 270, 271, 272, 273, 274, 275, 35, 276, 68, 105, 104, 318, 319, 320, 321, 322, 323, 324, 325, 326, 327, 328, 329, 330, 331, 332, 333, 334, 335, 336, 337] (by decide +kernel) (by decide +kernel)
set_option maxRecDepth 20000 in
theorem gL_law_X3_pass : GoodIn wsL_law (wsV RL 108 RX3 yX3_pass wsX3_pass) := goodIn_app (goodIn_of _ (by decide +kernel)) ggL_law_X3_pass
set_option maxRecDepth 20000 in
theorem ggL_law_X1_reach : GoodIn wsL_law wsX1_reach := goodIn_ca (goodIn_r _ [280, 20, 113, 114, 115, 2, 116, 117, 118, 119, 120, 121, 122, 281, 282, 283, 19, 284, 95, 127, 28, 311, 312, 313, 314, 315, 316, 317] (by decide +kernel) (by decide +kernel)) (goodIn_sub (fun _ h => List.mem_append_right _ h) (by decide +kernel))
set_option maxRecDepth 20000 in
theorem gL_law_X1_reach : GoodIn wsL_law (wsV RL 111 RX1 yX1_reach wsX1_reach) := goodIn_app (goodIn_of _ (by decide +kernel)) ggL_law_X1_reach
set_option maxRecDepth 20000 in
theorem ggL_law_X1_suspect : GoodIn wsL_law wsX1_suspect := goodIn_r _ [288, 20, 146, 141, 311, 312, 313, 314, 315, 316, 317] (by decide +kernel) (by decide +kernel)
set_option maxRecDepth 20000 in
theorem gL_law_X1_suspect : GoodIn wsL_law (wsV RL 122 RX1 yX1_suspect wsX1_suspect) := goodIn_app (goodIn_of _ (by decide +kernel)) ggL_law_X1_suspect
set_option maxRecDepth 20000 in
theorem gq_L_law_X3_isSame_r1 : GoodIn wsL_law wsX3_isSame_r1 := goodIn_of _ (by decide +kernel)
set_option maxRecDepth 20000 in
theorem gq_L_law_X3_isSame_r2 : GoodIn wsL_law wsX3_isSame_r2 := goodIn_of _ (by decide +kernel)
set_option maxRecDepth 20000 in
theorem gq_L_law_X3_isSame_r3 : GoodIn wsL_law wsX3_isSame_r3 := goodIn_of _ (by decide +kernel)
set_option maxRecDepth 20000 in
theorem gq_L_law_X3_isSame_r4 : GoodIn wsL_law wsX3_isSame_r4 := goodIn_of _ (by decide +kernel)
set_option maxRecDepth 20000 in
theorem gq_L_law_X3_isSame_r5 : GoodIn wsL_law wsX3_isSame_r5 := goodIn_of _ (by decide +kernel)
set_option maxRecDepth 20000 in
theorem gq_L_law_X3_isSame_r6 : GoodIn wsL_law wsX3_isSame_r6 := goodIn_of _ (by decide +kernel)
theorem ggL_law_X3_isSame : GoodIn wsL_law wsX3_isSame := (good_c (goodIn_of [.code yX3_isSame cX3_isSame 11 (some .boolean)] (by decide +kernel)) (goodIn_app (goodIn_app (goodIn_app (goodIn_app (goodIn_app (goodIn_app (goodIn_app gq_L_law_X3_isSame_r1 (goodIn_app gq_L_law_X3_isSame_r2 (goodIn_app gq_L_law_X3_isSame_r3 (goodIn_app gq_L_law_X3_isSame_r4 (goodIn_app gq_L_law_X3_isSame_r5 gq_L_law_X3_isSame_r6))))) (goodIn_sub (fun _ h => (List.mem_append_left _ (List.mem_append_left _ (List.mem_append_left _ (List.mem_append_left _ (List.mem_append_left _ (List.mem_append_left _ (List.mem_append_right _ h)))))))) (by decide +kernel))) (goodIn_sub (fun _ h => (List.mem_append_left _ (List.mem_append_left _ (List.mem_append_left _ (List.mem_append_left _ (List.mem_append_left _ (List.mem_append_right _ h))))))) (by decide +kernel))) (goodIn_sub (fun _ h => (List.mem_append_left _ (List.mem_append_left _ (List.mem_append_left _ (List.mem_append_left _ (List.mem_append_right _ h)))))) (by decide +kernel))) (goodIn_sub (fun _ h => (List.mem_append_left _ (List.mem_append_left _ (List.mem_append_left _ (List.mem_append_left _ (List.mem_append_left _ (List.mem_append_left _ (List.mem_append_left _ (List.mem_append_left _ (List.mem_append_right _ h)))))))))) (by decide +kernel))) (goodIn_sub (fun _ h => (List.mem_append_left _ (List.mem_append_left _ (List.mem_append_left _ (List.mem_append_left _ (List.mem_append_left _ (List.mem_append_left _ (List.mem_append_left _ (List.mem_append_right _ h))))))))) (by decide +kernel))) (goodIn_sub (fun _ h => (List.mem_append_right _ h)) (by decide +kernel))))
set_option maxRecDepth 20000 in
theorem gL_law_X3_isSame : GoodIn wsL_law (wsV RL 125 RX3 yX3_isSame wsX3_isSame) := goodIn_app (goodIn_of _ (by decide +kernel)) ggL_law_X3_isSame

set_option maxRecDepth 20000 in
theorem gq_L_law_L_act_r3 : GoodIn wsL_law wsL_act_r3 := goodIn_of _ (by decide +kernel)
set_option maxRecDepth 20000 in
theorem gq_L_law_L_act_r4 : GoodIn wsL_law wsL_act_r4 := goodIn_of _ (by decide +kernel)
set_option maxRecDepth 20000 in
theorem gq_L_law_L_act_r5 : GoodIn wsL_law wsL_act_r5 := goodIn_of _ (by decide +kernel)
theorem ggL_law_L_act : GoodIn wsL_law wsL_act := (good_c (goodIn_of [.code yL_act cL_act 21 (some .boolean)] (by decide +kernel)) (goodIn_app (goodIn_app (goodIn_app (goodIn_app (goodIn_app (goodIn_app (goodIn_app (goodIn_app (goodIn_app gq_L_law_L_act_r1 (goodIn_app gq_L_law_L_act_r2 (goodIn_app gq_L_law_L_act_r3 (goodIn_app gq_L_law_L_act_r4 gq_L_law_L_act_r5)))) (goodIn_sub (fun _ h => (List.mem_append_left _ (List.mem_append_left _ (List.mem_append_left _ (List.mem_append_left _ (List.mem_append_left _ (List.mem_append_left _ (List.mem_append_right _ h)))))))) (by decide +kernel))) (goodIn_sub (fun _ h => (List.mem_append_left _ (List.mem_append_left _ (List.mem_append_left _ (List.mem_append_left _ (List.mem_append_left _ (List.mem_append_right _ h))))))) (by decide +kernel))) (goodIn_sub (fun _ h => (List.mem_append_left _ (List.mem_append_left _ (List.mem_append_left _ (List.mem_append_left _ (List.mem_append_right _ h)))))) (by decide +kernel))) (goodIn_sub (fun _ h => (List.mem_append_left _ (List.mem_append_left _ (List.mem_append_left _ (List.mem_append_left _ (List.mem_append_left _ (List.mem_append_left _ (List.mem_append_left _ (List.mem_append_left _ (List.mem_append_right _ h)))))))))) (by decide +kernel))) (goodIn_sub (fun _ h => (List.mem_append_left _ (List.mem_append_left _ (List.mem_append_left _ (List.mem_append_left _ (List.mem_append_left _ (List.mem_append_left _ (List.mem_append_left _ (List.mem_append_right _ h))))))))) (by decide +kernel))) (goodIn_sub (fun _ h => (List.mem_append_left _ (List.mem_append_left _ (List.mem_append_right _ h)))) (by decide +kernel))) (goodIn_sub (fun _ h => (List.mem_append_left _ (List.mem_append_right _ h))) (by decide +kernel))) (goodIn_sub (fun _ h => (List.mem_append_right _ h)) (by decide +kernel))))
set_option maxRecDepth 20000 in
theorem gL_law_L_act : GoodIn wsL_law (va_wsS RL 82 yL_act wsL_act) := goodIn_app (goodIn_of _ (by decide +kernel)) ggL_law_L_act
set_option maxRecDepth 20000 in
theorem ggL_law_X1_count : GoodIn wsL_law wsX1_count := goodIn_ca (goodIn_r _ [154, 20, 80, 81, 2, 82, 118, 119, 120, 121, 122, 155, 156, 157, 19, 158, 159, 95, 127, 160, 161, 162, 163, 27, 164, 165, 166, 167, 28, 168, 169, 170, 171, 172, 173, 174, 175, 311, 312, 313, 314, 315, 316, 317] (by decide +kernel) (by decide +kernel)) (goodIn_sub (fun _ h => List.mem_append_right _ h) (by decide +kernel))
set_option maxRecDepth 20000 in
theorem gL_law_X1_count : GoodIn wsL_law (wsV RL 90 RX1 yX1_count wsX1_count) := goodIn_app (goodIn_of _ (by decide +kernel)) ggL_law_X1_count
set_option maxRecDepth 20000 in
theorem ggL_law_X1_pipe : GoodIn wsL_law wsX1_pipe := goodIn_ca (goodIn_r _ [179, 20, 142, 143, 144, 2, 145, 146, 118, 119, 120, 121, 122, 80, 81, 82, 180, 181, 182, 19, 183, 28, 184, 185, 186, 187, 27, 188, 5, 6, 7, 189, 9, 10, 190, 191, 192, 311, 312, 313, 314, 315, 316, 317] (by decide +kernel) (by decide +kernel)) (goodIn_sub (fun _ h => List.mem_append_right _ h) (by decide +kernel))
set_option maxRecDepth 20000 in
theorem gL_law_X1_pipe : GoodIn wsL_law (wsV RL 93 RX1 yX1_pipe wsX1_pipe) := goodIn_app (goodIn_of _ (by decide +kernel)) ggL_law_X1_pipe
set_option maxRecDepth 20000 in
theorem ggL_law_X1_tank : GoodIn wsL_law wsX1_tank := goodIn_ca (goodIn_r _ [196, 20, 132, 113, 114, 115, 2, 116, 117, 118, 119, 120, 121, 122, 80, 81, 82, 311, 312, 313, 314, 315, 316, 317] (by decide +kernel) (by decide +kernel)) (goodIn_sub (fun _ h => List.mem_append_right _ h) (by decide +kernel))
set_option maxRecDepth 20000 in
theorem gL_law_X1_tank : GoodIn wsL_law (wsV RL 96 RX1 yX1_tank wsX1_tank) := goodIn_app (goodIn_of _ (by decide +kernel)) ggL_law_X1_tank
set_option maxRecDepth 20000 in
theorem ggL_law_X1_sated : GoodIn wsL_law wsX1_sated := goodIn_ca (goodIn_r _ [200, 21, 20, 113, 114, 115, 2, 116, 117, 118, 119, 120, 121, 122, 201, 202, 203, 19, 204, 159, 95, 127, 27, 205, 206, 207, 208, 28, 209, 210, 211, 212, 213, 214, 215, 216, 217, 218, 188, 5, 6, 7, 219, 220, 221, 189, 9, 10, 222, 223, 224, 225, 184, 185, 186, 187, 190, 191, 192, 226, 227, 228, 229, 230, 231, 232, 233, 234, 235, 236, 173, 174, 175, 311, 312, 313, 314, 315, 316, 317] (by decide +kernel) (by decide +kernel)) (goodIn_sub (fun _ h => List.mem_append_right _ h) (by decide +kernel))
set_option maxRecDepth 20000 in
theorem gL_law_X1_sated : GoodIn wsL_law (wsV RL 99 RX1 yX1_sated wsX1_sated) := goodIn_app (goodIn_of _ (by decide +kernel)) ggL_law_X1_sated
set_option maxRecDepth 20000 in
theorem ggL_law_X1_foresee : GoodIn wsL_law wsX1_foresee := goodIn_ca (goodIn_ca (goodIn_r _ [240, 21, 20, 80, 81, 2, 82, 83, 84, 85, 86, 87, 118, 119, 120, 121, 122, 201, 202, 203, 19, 204, 159, 95, 127, 27, 205, 206, 207, 208, 28, 241, 242, 243, 244, 160, 161, 162, 163, 245, 210, 211, 212, 213, 214, 215, 216, 217, 218, 188, 5, 6, 7, 219, 220, 221, 189, 9, 10, 222, 223, 224, 225, 184, 185, 186, 187, 190, 191, 192, 226, 227, 228, 229, 230, 231, 232, 233, 234, 235, 246, 165, 166, 167, 247, 311, 312, 313, 314, 315, 316, 317] (by decide +kernel) (by decide +kernel)) (goodIn_sub (fun _ h => List.mem_append_left _ (List.mem_append_right _ h)) (by decide +kernel))) (goodIn_sub (fun _ h => List.mem_append_right _ h) (by decide +kernel))
set_option maxRecDepth 20000 in
theorem gL_law_X1_foresee : GoodIn wsL_law (wsV RL 102 RX1 yX1_foresee wsX1_foresee) := goodIn_app (goodIn_of _ (by decide +kernel)) ggL_law_X1_foresee

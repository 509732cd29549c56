-- GoodIn rows of the law
set_option maxRecDepth 20000 in
theorem ggL_law_X1_init : GoodIn wsL_law wsX1_init := goodIn_r _ [13, 14, 15, 16, 17, 18, 19, 20, 21, 22, 23, 24, 25, 26, 3, 27, 28, 313, 314, 315, 316, 317, 311, 312] (by decide +kernel) (by decide +kernel)
set_option maxRecDepth 20000 in
theorem gL_law_X1_init : GoodIn wsL_law (wsX1_init) := ggL_law_X1_init
set_option maxRecDepth 20000 in
theorem gq_L_law_L_build_r1 : GoodIn wsL_law wsL_build_r1 := goodIn_of _ (by decide +kernel)
set_option maxRecDepth 20000 in
theorem gq_L_law_L_build_r2 : GoodIn wsL_law wsL_build_r2 := goodIn_of _ (by decide +kernel)
set_option maxRecDepth 20000 in
theorem gq_L_law_L_build_r3 : GoodIn wsL_law wsL_build_r3 := goodIn_of _ (by decide +kernel)
set_option maxRecDepth 20000 in
theorem gq_L_law_L_build_r4 : GoodIn wsL_law wsL_build_r4 := goodIn_of _ (by decide +kernel)
set_option maxRecDepth 20000 in
theorem gq_L_law_L_build_r5 : GoodIn wsL_law wsL_build_r5 := goodIn_of _ (by decide +kernel)
set_option maxRecDepth 20000 in
theorem gq_L_law_L_build_r6 : GoodIn wsL_law wsL_build_r6 := goodIn_of _ (by decide +kernel)
theorem ggL_law_L_build : GoodIn wsL_law wsL_build := (good_c (goodIn_of [.code yL_build cL_build 4 (some (.object "AqueductTanksLaw$Sim"))] (by decide +kernel)) (goodIn_app (goodIn_app (goodIn_app (goodIn_app (goodIn_app (goodIn_app (goodIn_app (goodIn_app (goodIn_app gq_L_law_L_build_r1 (goodIn_app gq_L_law_L_build_r2 (goodIn_app gq_L_law_L_build_r3 (goodIn_app gq_L_law_L_build_r4 (goodIn_app gq_L_law_L_build_r5 gq_L_law_L_build_r6))))) (goodIn_sub (fun _ h => (List.mem_append_left _ (List.mem_append_left _ (List.mem_append_left _ (List.mem_append_left _ (List.mem_append_left _ (List.mem_append_left _ (List.mem_append_right _ h)))))))) (by decide +kernel))) (goodIn_sub (fun _ h => (List.mem_append_left _ (List.mem_append_left _ (List.mem_append_left _ (List.mem_append_left _ (List.mem_append_left _ (List.mem_append_right _ h))))))) (by decide +kernel))) (goodIn_sub (fun _ h => (List.mem_append_left _ (List.mem_append_left _ (List.mem_append_left _ (List.mem_append_left _ (List.mem_append_right _ h)))))) (by decide +kernel))) (goodIn_sub (fun _ h => (List.mem_append_left _ (List.mem_append_left _ (List.mem_append_left _ (List.mem_append_left _ (List.mem_append_left _ (List.mem_append_left _ (List.mem_append_left _ (List.mem_append_left _ (List.mem_append_right _ h)))))))))) (by decide +kernel))) (goodIn_sub (fun _ h => (List.mem_append_left _ (List.mem_append_left _ (List.mem_append_left _ (List.mem_append_left _ (List.mem_append_left _ (List.mem_append_left _ (List.mem_append_left _ (List.mem_append_right _ h))))))))) (by decide +kernel))) (goodIn_sub (fun _ h => (List.mem_append_left _ (List.mem_append_left _ (List.mem_append_right _ h)))) (by decide +kernel))) (goodIn_sub (fun _ h => (List.mem_append_left _ (List.mem_append_right _ h))) (by decide +kernel))) (goodIn_sub (fun _ h => (List.mem_append_right _ h)) (by decide +kernel))))
set_option maxRecDepth 20000 in
theorem gL_law_L_build : GoodIn wsL_law (va_wsS RL 87 yL_build wsL_build) := goodIn_app (goodIn_of _ (by decide +kernel)) ggL_law_L_build
set_option maxRecDepth 20000 in
theorem ggL_law_L_cell : GoodIn wsL_law wsL_cell := goodIn_r _ [45, 46] (by decide +kernel) (by decide +kernel)
set_option maxRecDepth 20000 in
theorem gL_law_L_cell : GoodIn wsL_law (va_wsS RL 78 yL_cell wsL_cell) := goodIn_app (goodIn_of _ (by decide +kernel)) ggL_law_L_cell
set_option maxRecDepth 20000 in
theorem gq_L_law_L_act_r1 : GoodIn wsL_law wsL_act_r1 := goodIn_of _ (by decide +kernel)
set_option maxRecDepth 20000 in
theorem gq_L_law_L_act_r2 : GoodIn wsL_law wsL_act_r2 := goodIn_of _ (by decide +kernel)

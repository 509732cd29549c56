set_option maxRecDepth 20000 in
theorem ggL_act_L_below : GoodIn wsL_act wsL_below := goodIn_r _ [12, 13] (by decide +kernel) (by decide +kernel)
set_option maxRecDepth 20000 in
theorem gL_act_L_below : GoodIn wsL_act (va_wsS RL 19 yL_below wsL_below) := goodIn_app (goodIn_of _ (by decide +kernel)) ggL_act_L_below
set_option maxRecDepth 20000 in
theorem ggL_act_X3_build : GoodIn wsL_act wsX3_build := goodIn_r _ [18, 19, 20, 21, 22, 23, 24, 25, 26, 27, 28, 29, 30, 115, 116, 117, 118, 119, 120, 121, 122, 123, 124, 125] (by decide +kernel) (by decide +kernel)
set_option maxRecDepth 20000 in
theorem gL_act_X3_build : GoodIn wsL_act (wsV RL 25 RX3 yX3_build wsX3_build) := goodIn_app (goodIn_of _ (by decide +kernel)) ggL_act_X3_build
set_option maxRecDepth 20000 in
theorem ggL_act_X1_build : GoodIn wsL_act wsX1_build := goodIn_ca (goodIn_ca (goodIn_r _ [35, 36, 37, 38, 39, 40, 34, 41, 42, 43, 44, 45, 46, 47, 48, 49, 50, 51, 52, 53, 54, 55, 56, 135, 136, 137, 138, 139, 140, 141] (by decide +kernel) (by decide +kernel)) (goodIn_sub (fun _ h => List.mem_cons_of_mem _ (List.mem_append_left _ (List.mem_append_left _ (List.mem_append_right _ h)))) (by decide +kernel))) (goodIn_sub (fun _ h => List.mem_cons_of_mem _ (List.mem_append_left _ (List.mem_append_right _ h))) (by decide +kernel))
set_option maxRecDepth 20000 in
theorem gL_act_X1_build : GoodIn wsL_act (wsV RL 29 RX1 yX1_build wsX1_build) := goodIn_app (goodIn_of _ (by decide +kernel)) ggL_act_X1_build
set_option maxRecDepth 20000 in
theorem ggL_act_X3_lay : GoodIn wsL_act wsX3_lay := goodIn_r _ [60, 61, 62, 63, 64, 65, 66, 67, 68, 69, 70, 71, 29, 30, 115, 116, 117, 126, 127, 128, 129, 130, 131, 132, 133, 134] (by decide +kernel) (by decide +kernel)
set_option maxRecDepth 20000 in
theorem gL_act_X3_lay : GoodIn wsL_act (wsV RL 34 RX3 yX3_lay wsX3_lay) := goodIn_app (goodIn_of _ (by decide +kernel)) ggL_act_X3_lay
set_option maxRecDepth 20000 in
theorem ggL_act_X1_lay : GoodIn wsL_act wsX1_lay := goodIn_ca (goodIn_ca (goodIn_ca (goodIn_r _ [75, 36, 37, 38, 76, 77, 78, 34, 79, 80, 81, 82, 83, 84, 85, 42, 43, 44, 45, 46, 39, 40, 41, 86, 87, 88, 53, 89, 90, 91, 135, 136, 137, 138, 139, 140, 141] (by decide +kernel) (by decide +kernel)) (goodIn_sub (fun _ h => List.mem_cons_of_mem _ (List.mem_append_left _ (List.mem_append_left _ (List.mem_append_right _ h)))) (by decide +kernel))) (goodIn_sub (fun _ h => List.mem_cons_of_mem _ (List.mem_append_right _ h)) (by decide +kernel))) (goodIn_sub (fun _ h => List.mem_cons_of_mem _ (List.mem_append_left _ (List.mem_append_right _ h))) (by decide +kernel))
set_option maxRecDepth 20000 in
theorem gL_act_X1_lay : GoodIn wsL_act (wsV RL 38 RX1 yX1_lay wsX1_lay) := goodIn_app (goodIn_of _ (by decide +kernel)) ggL_act_X1_lay
set_option maxRecDepth 20000 in
theorem ggL_act_X1_set : GoodIn wsL_act wsX1_set := goodIn_ca (goodIn_ca (goodIn_r _ [95, 38, 96, 76, 77, 78, 34, 79, 80, 81, 82, 83, 84, 85, 47, 48, 49, 39, 40, 41, 42, 43, 44, 45, 46, 135, 136, 137, 138, 139, 140, 141] (by decide +kernel) (by decide +kernel)) (goodIn_sub (fun _ h => List.mem_cons_of_mem _ (List.mem_append_right _ h)) (by decide +kernel))) (goodIn_sub (fun _ h => List.mem_cons_of_mem _ (List.mem_append_left _ (List.mem_append_right _ h))) (by decide +kernel))
set_option maxRecDepth 20000 in
theorem gL_act_X1_set : GoodIn wsL_act (wsV RL 50 RX1 yX1_set wsX1_set) := goodIn_app (goodIn_of _ (by decide +kernel)) ggL_act_X1_set
set_option maxRecDepth 20000 in
theorem ggL_act_X1_flush : GoodIn wsL_act wsX1_flush := goodIn_ca (goodIn_r _ [100, 38, 96, 76, 77, 78, 34, 79, 80, 81, 82, 83, 84, 85, 135, 136, 137, 138, 139, 140, 141] (by decide +kernel) (by decide +kernel)) (goodIn_sub (fun _ h => List.mem_cons_of_mem _ (List.mem_append_right _ h)) (by decide +kernel))
set_option maxRecDepth 20000 in
theorem gL_act_X1_flush : GoodIn wsL_act (wsV RL 59 RX1 yX1_flush wsX1_flush) := goodIn_app (goodIn_of _ (by decide +kernel)) ggL_act_X1_flush
set_option maxRecDepth 20000 in
theorem ggL_act_X1_scrape : GoodIn wsL_act wsX1_scrape := goodIn_ca (goodIn_r _ [104, 38, 105, 106, 107, 108, 34, 109, 110, 81, 82, 83, 84, 85, 135, 136, 137, 138, 139, 140, 141] (by decide +kernel) (by decide +kernel)) (goodIn_sub (fun _ h => List.mem_cons_of_mem _ (List.mem_append_right _ h)) (by decide +kernel))
set_option maxRecDepth 20000 in
theorem gL_act_X1_scrape : GoodIn wsL_act (wsV RL 68 RX1 yX1_scrape wsX1_scrape) := goodIn_app (goodIn_of _ (by decide +kernel)) ggL_act_X1_scrape
set_option maxRecDepth 20000 in
theorem ggL_act_X1_steal : GoodIn wsL_act wsX1_steal := goodIn_ca (goodIn_ca (goodIn_r _ [114, 38, 105, 106, 107, 108, 34, 109, 110, 81, 82, 83, 84, 85, 39, 40, 41, 42, 43, 44, 45, 46, 135, 136, 137, 138, 139, 140, 141] (by decide +kernel) (by decide +kernel)) (goodIn_sub (fun _ h => List.mem_cons_of_mem _ (List.mem_append_right _ h)) (by decide +kernel))) (goodIn_sub (fun _ h => List.mem_cons_of_mem _ (List.mem_append_left _ (List.mem_append_right _ h))) (by decide +kernel))
set_option maxRecDepth 20000 in
theorem gL_act_X1_steal : GoodIn wsL_act (wsV RL 74 RX1 yX1_steal wsX1_steal) := goodIn_app (goodIn_of _ (by decide +kernel)) ggL_act_X1_steal

theorem dX1_init_0 : decode cX1_init 0 = .ok (.aload_n 0, 1) := by decide +kernel
theorem dX1_init_1 : decode cX1_init 1 = .ok (.invokespecial 1, 3) := by decide +kernel
theorem dX1_init_4 : decode cX1_init 4 = .ok (.aload_n 0, 1) := by decide +kernel
theorem dX1_init_5 : decode cX1_init 5 = .ok (.new 7, 3) := by decide +kernel
theorem dX1_init_8 : decode cX1_init 8 = .ok (.dup, 1) := by decide +kernel
theorem dX1_init_9 : decode cX1_init 9 = .ok (.invokespecial 9, 3) := by decide +kernel
theorem dX1_init_12 : decode cX1_init 12 = .ok (.putfield 10, 3) := by decide +kernel
theorem dX1_init_15 : decode cX1_init 15 = .ok (.aload_n 0, 1) := by decide +kernel
theorem dX1_init_16 : decode cX1_init 16 = .ok (.new 7, 3) := by decide +kernel
theorem dX1_init_19 : decode cX1_init 19 = .ok (.dup, 1) := by decide +kernel
theorem dX1_init_20 : decode cX1_init 20 = .ok (.invokespecial 9, 3) := by decide +kernel
theorem dX1_init_23 : decode cX1_init 23 = .ok (.putfield 16, 3) := by decide +kernel
theorem dX1_init_26 : decode cX1_init 26 = .ok (.return_, 1) := by decide +kernel
set_option maxRecDepth 20000 in
theorem ggX1_build_X1_isWithin : GoodIn wsX1_build wsX1_isWithin := goodIn_r _ [7] (by decide +kernel) (by decide +kernel)
set_option maxRecDepth 20000 in
theorem gX1_build_X1_isWithin : GoodIn wsX1_build (va_wsS RX1 19 yX1_isWithin wsX1_isWithin) := goodIn_app (goodIn_of _ (by decide +kernel)) ggX1_build_X1_isWithin
set_option maxRecDepth 20000 in
theorem ggX1_build_X1_needArgument : GoodIn wsX1_build wsX1_needArgument := goodIn_ca (goodIn_r _ [10, 11, 12] (by decide +kernel) (by decide +kernel)) (goodIn_sub (fun _ h => List.mem_cons_of_mem _ (List.mem_append_right _ h)) (by decide +kernel))
set_option maxRecDepth 20000 in
theorem gX1_build_X1_needArgument : GoodIn wsX1_build (va_wsS RX1 23 yX1_needArgument wsX1_needArgument) := goodIn_app (goodIn_of _ (by decide +kernel)) ggX1_build_X1_needArgument
set_option maxRecDepth 20000 in
theorem ggX1_build_X1_isSpringAndThirst : GoodIn wsX1_build wsX1_isSpringAndThirst := goodIn_r _ [15, 4, 5, 6, 7] (by decide +kernel) (by decide +kernel)
set_option maxRecDepth 20000 in
theorem gX1_build_X1_isSpringAndThirst : GoodIn wsX1_build (va_wsS RX1 27 yX1_isSpringAndThirst wsX1_isSpringAndThirst) := goodIn_app (goodIn_of _ (by decide +kernel)) ggX1_build_X1_isSpringAndThirst
set_option maxRecDepth 20000 in
theorem ggX1_build_X0_addTank : GoodIn wsX1_build wsX0_addTank := goodIn_r _ [20, 21, 22, 25, 26, 27, 28, 29] (by decide +kernel) (by decide +kernel)
set_option maxRecDepth 20000 in
theorem gX1_build_X0_addTank : GoodIn wsX1_build (wsV RX1 31 RX0 yX0_addTank wsX0_addTank) := goodIn_app (goodIn_of _ (by decide +kernel)) ggX1_build_X0_addTank
theorem dX1_build_0 : decode cX1_build 0 = .ok (.iload_n 1, 1) := by decide +kernel
theorem dX1_build_1 : decode cX1_build 1 = .ok (.iconst 0, 1) := by decide +kernel
theorem dX1_build_2 : decode cX1_build 2 = .ok (.bipush 99, 2) := by decide +kernel
theorem dX1_build_4 : decode cX1_build 4 = .ok (.invokestatic 19, 3) := by decide +kernel
theorem dX1_build_7 : decode cX1_build 7 = .ok (.invokestatic 23, 3) := by decide +kernel
theorem dX1_build_10 : decode cX1_build 10 = .ok (.iload_n 2, 1) := by decide +kernel
theorem dX1_build_11 : decode cX1_build 11 = .ok (.iload_n 3, 1) := by decide +kernel
theorem dX1_build_12 : decode cX1_build 12 = .ok (.invokestatic 27, 3) := by decide +kernel
theorem dX1_build_15 : decode cX1_build 15 = .ok (.invokestatic 23, 3) := by decide +kernel
theorem dX1_build_18 : decode cX1_build 18 = .ok (.aload_n 0, 1) := by decide +kernel
theorem dX1_build_19 : decode cX1_build 19 = .ok (.getfield 10, 3) := by decide +kernel
theorem dX1_build_22 : decode cX1_build 22 = .ok (.iload_n 1, 1) := by decide +kernel
theorem dX1_build_23 : decode cX1_build 23 = .ok (.iload_n 2, 1) := by decide +kernel
theorem dX1_build_24 : decode cX1_build 24 = .ok (.iload_n 3, 1) := by decide +kernel
theorem dX1_build_25 : decode cX1_build 25 = .ok (.invokevirtual 31, 3) := by decide +kernel
theorem dX1_build_28 : decode cX1_build 28 = .ok (.istore 4, 2) := by decide +kernel
theorem dX1_build_30 : decode cX1_build 30 = .ok (.iload 4, 2) := by decide +kernel
theorem dX1_build_32 : decode cX1_build 32 = .ok (.iconst (-1), 1) := by decide +kernel
theorem dX1_build_33 : decode cX1_build 33 = .ok (.if_icmp .ne 13, 3) := by decide +kernel
theorem dX1_build_36 : decode cX1_build 36 = .ok (.new 35, 3) := by decide +kernel
theorem dX1_build_39 : decode cX1_build 39 = .ok (.dup, 1) := by decide +kernel
theorem dX1_build_40 : decode cX1_build 40 = .ok (.ldc 37, 2) := by decide +kernel
theorem dX1_build_42 : decode cX1_build 42 = .ok (.invokespecial 39, 3) := by decide +kernel
theorem dX1_build_45 : decode cX1_build 45 = .ok (.athrow, 1) := by decide +kernel
theorem dX1_build_46 : decode cX1_build 46 = .ok (.iload 4, 2) := by decide +kernel
theorem dX1_build_48 : decode cX1_build 48 = .ok (.ireturn, 1) := by decide +kernel
set_option maxRecDepth 20000 in
theorem ggX1_lay_X1_needTank : GoodIn wsX1_lay wsX1_needTank := goodIn_ca (goodIn_r _ [8, 3, 9, 10, 11, 7, 12, 13, 14, 30, 31, 32, 33, 34, 35, 36] (by decide +kernel) (by decide +kernel)) (goodIn_sub (fun _ h => List.mem_cons_of_mem _ (List.mem_append_left _ (List.mem_append_right _ h))) (by decide +kernel))
set_option maxRecDepth 20000 in
theorem gX1_lay_X1_needTank : GoodIn wsX1_lay (wsV RX1 42 RX1 yX1_needTank wsX1_needTank) := goodIn_app (goodIn_of _ (by decide +kernel)) ggX1_lay_X1_needTank
set_option maxRecDepth 20000 in
theorem ggX1_lay_X1_needArgument : GoodIn wsX1_lay wsX1_needArgument := goodIn_ca (goodIn_r _ [17, 18, 19] (by decide +kernel) (by decide +kernel)) (goodIn_sub (fun _ h => List.mem_cons_of_mem _ (List.mem_append_right _ h)) (by decide +kernel))
set_option maxRecDepth 20000 in
theorem gX1_lay_X1_needArgument : GoodIn wsX1_lay (va_wsS RX1 23 yX1_needArgument wsX1_needArgument) := goodIn_app (goodIn_of _ (by decide +kernel)) ggX1_lay_X1_needArgument
set_option maxRecDepth 20000 in
theorem ggX1_lay_X1_isWithin : GoodIn wsX1_lay wsX1_isWithin := goodIn_r _ [22] (by decide +kernel) (by decide +kernel)
set_option maxRecDepth 20000 in
theorem gX1_lay_X1_isWithin : GoodIn wsX1_lay (va_wsS RX1 19 yX1_isWithin wsX1_isWithin) := goodIn_app (goodIn_of _ (by decide +kernel)) ggX1_lay_X1_isWithin
set_option maxRecDepth 20000 in
theorem ggX1_lay_X0_addPipe : GoodIn wsX1_lay wsX0_addPipe := goodIn_r _ [27, 28, 29, 32, 33, 34, 35, 36] (by decide +kernel) (by decide +kernel)
set_option maxRecDepth 20000 in
theorem gX1_lay_X0_addPipe : GoodIn wsX1_lay (wsV RX1 46 RX0 yX0_addPipe wsX0_addPipe) := goodIn_app (goodIn_of _ (by decide +kernel)) ggX1_lay_X0_addPipe
theorem dX1_lay_0 : decode cX1_lay 0 = .ok (.aload_n 0, 1) := by decide +kernel
theorem dX1_lay_1 : decode cX1_lay 1 = .ok (.iload_n 1, 1) := by decide +kernel
theorem dX1_lay_2 : decode cX1_lay 2 = .ok (.invokevirtual 42, 3) := by decide +kernel
theorem dX1_lay_5 : decode cX1_lay 5 = .ok (.aload_n 0, 1) := by decide +kernel
theorem dX1_lay_6 : decode cX1_lay 6 = .ok (.iload_n 2, 1) := by decide +kernel
theorem dX1_lay_7 : decode cX1_lay 7 = .ok (.invokevirtual 42, 3) := by decide +kernel
theorem dX1_lay_10 : decode cX1_lay 10 = .ok (.iload_n 1, 1) := by decide +kernel
theorem dX1_lay_11 : decode cX1_lay 11 = .ok (.iload_n 2, 1) := by decide +kernel
theorem dX1_lay_12 : decode cX1_lay 12 = .ok (.if_icmp .eq 7, 3) := by decide +kernel
theorem dX1_lay_15 : decode cX1_lay 15 = .ok (.iconst 1, 1) := by decide +kernel
theorem dX1_lay_16 : decode cX1_lay 16 = .ok (.goto 4, 3) := by decide +kernel
theorem dX1_lay_19 : decode cX1_lay 19 = .ok (.iconst 0, 1) := by decide +kernel
theorem dX1_lay_20 : decode cX1_lay 20 = .ok (.invokestatic 23, 3) := by decide +kernel
theorem dX1_lay_23 : decode cX1_lay 23 = .ok (.iload_n 3, 1) := by decide +kernel
theorem dX1_lay_24 : decode cX1_lay 24 = .ok (.iconst 1, 1) := by decide +kernel
theorem dX1_lay_25 : decode cX1_lay 25 = .ok (.bipush 20, 2) := by decide +kernel
theorem dX1_lay_27 : decode cX1_lay 27 = .ok (.invokestatic 19, 3) := by decide +kernel
theorem dX1_lay_30 : decode cX1_lay 30 = .ok (.invokestatic 23, 3) := by decide +kernel
theorem dX1_lay_33 : decode cX1_lay 33 = .ok (.iload 4, 2) := by decide +kernel
theorem dX1_lay_35 : decode cX1_lay 35 = .ok (.iconst 0, 1) := by decide +kernel
theorem dX1_lay_36 : decode cX1_lay 36 = .ok (.bipush 60, 2) := by decide +kernel
theorem dX1_lay_38 : decode cX1_lay 38 = .ok (.invokestatic 19, 3) := by decide +kernel
theorem dX1_lay_41 : decode cX1_lay 41 = .ok (.invokestatic 23, 3) := by decide +kernel
theorem dX1_lay_44 : decode cX1_lay 44 = .ok (.aload_n 0, 1) := by decide +kernel
theorem dX1_lay_45 : decode cX1_lay 45 = .ok (.getfield 10, 3) := by decide +kernel
theorem dX1_lay_48 : decode cX1_lay 48 = .ok (.iload_n 1, 1) := by decide +kernel
theorem dX1_lay_49 : decode cX1_lay 49 = .ok (.iload_n 2, 1) := by decide +kernel
theorem dX1_lay_50 : decode cX1_lay 50 = .ok (.iload_n 3, 1) := by decide +kernel
theorem dX1_lay_51 : decode cX1_lay 51 = .ok (.iload 4, 2) := by decide +kernel
theorem dX1_lay_53 : decode cX1_lay 53 = .ok (.invokevirtual 46, 3) := by decide +kernel
theorem dX1_lay_56 : decode cX1_lay 56 = .ok (.istore 5, 2) := by decide +kernel
theorem dX1_lay_58 : decode cX1_lay 58 = .ok (.iload 5, 2) := by decide +kernel
theorem dX1_lay_60 : decode cX1_lay 60 = .ok (.iconst (-1), 1) := by decide +kernel
theorem dX1_lay_61 : decode cX1_lay 61 = .ok (.if_icmp .ne 13, 3) := by decide +kernel
theorem dX1_lay_64 : decode cX1_lay 64 = .ok (.new 35, 3) := by decide +kernel
theorem dX1_lay_67 : decode cX1_lay 67 = .ok (.dup, 1) := by decide +kernel
theorem dX1_lay_68 : decode cX1_lay 68 = .ok (.ldc 50, 2) := by decide +kernel
theorem dX1_lay_70 : decode cX1_lay 70 = .ok (.invokespecial 39, 3) := by decide +kernel
theorem dX1_lay_73 : decode cX1_lay 73 = .ok (.athrow, 1) := by decide +kernel
theorem dX1_lay_74 : decode cX1_lay 74 = .ok (.iload 5, 2) := by decide +kernel
theorem dX1_lay_76 : decode cX1_lay 76 = .ok (.ireturn, 1) := by decide +kernel
set_option maxRecDepth 20000 in
theorem ggX1_set_X1_needTank : GoodIn wsX1_set wsX1_needTank := goodIn_ca (goodIn_r _ [7, 1, 8, 9, 10, 6, 11, 12, 13, 25, 26, 27, 28, 29, 30, 31] (by decide +kernel) (by decide +kernel)) (goodIn_sub (fun _ h => List.mem_cons_of_mem _ (List.mem_append_left _ (List.mem_append_right _ h))) (by decide +kernel))
set_option maxRecDepth 20000 in
theorem gX1_set_X1_needTank : GoodIn wsX1_set (wsV RX1 42 RX1 yX1_needTank wsX1_needTank) := goodIn_app (goodIn_of _ (by decide +kernel)) ggX1_set_X1_needTank
set_option maxRecDepth 20000 in
theorem ggX1_set_X1_isSpringAndThirst : GoodIn wsX1_set wsX1_isSpringAndThirst := goodIn_r _ [16, 17, 18, 6, 19] (by decide +kernel) (by decide +kernel)
set_option maxRecDepth 20000 in
theorem gX1_set_X1_isSpringAndThirst : GoodIn wsX1_set (va_wsS RX1 27 yX1_isSpringAndThirst wsX1_isSpringAndThirst) := goodIn_app (goodIn_of _ (by decide +kernel)) ggX1_set_X1_isSpringAndThirst
set_option maxRecDepth 20000 in
theorem ggX1_set_X1_needArgument : GoodIn wsX1_set wsX1_needArgument := goodIn_ca (goodIn_r _ [22, 23, 24] (by decide +kernel) (by decide +kernel)) (goodIn_sub (fun _ h => List.mem_cons_of_mem _ (List.mem_append_right _ h)) (by decide +kernel))
set_option maxRecDepth 20000 in
theorem gX1_set_X1_needArgument : GoodIn wsX1_set (va_wsS RX1 23 yX1_needArgument wsX1_needArgument) := goodIn_app (goodIn_of _ (by decide +kernel)) ggX1_set_X1_needArgument
theorem dX1_set_0 : decode cX1_set 0 = .ok (.aload_n 0, 1) := by decide +kernel
theorem dX1_set_1 : decode cX1_set 1 = .ok (.iload_n 1, 1) := by decide +kernel
theorem dX1_set_2 : decode cX1_set 2 = .ok (.invokevirtual 42, 3) := by decide +kernel
theorem dX1_set_5 : decode cX1_set 5 = .ok (.iload_n 2, 1) := by decide +kernel
theorem dX1_set_6 : decode cX1_set 6 = .ok (.iload_n 3, 1) := by decide +kernel
theorem dX1_set_7 : decode cX1_set 7 = .ok (.invokestatic 27, 3) := by decide +kernel
theorem dX1_set_10 : decode cX1_set 10 = .ok (.invokestatic 23, 3) := by decide +kernel
theorem dX1_set_13 : decode cX1_set 13 = .ok (.aload_n 0, 1) := by decide +kernel
theorem dX1_set_14 : decode cX1_set 14 = .ok (.getfield 10, 3) := by decide +kernel
theorem dX1_set_17 : decode cX1_set 17 = .ok (.getfield 52, 3) := by decide +kernel
theorem dX1_set_20 : decode cX1_set 20 = .ok (.iload_n 1, 1) := by decide +kernel
theorem dX1_set_21 : decode cX1_set 21 = .ok (.aaload, 1) := by decide +kernel
theorem dX1_set_22 : decode cX1_set 22 = .ok (.astore 4, 2) := by decide +kernel
theorem dX1_set_24 : decode cX1_set 24 = .ok (.bipush 100, 2) := by decide +kernel
theorem dX1_set_26 : decode cX1_set 26 = .ok (.aload 4, 2) := by decide +kernel
theorem dX1_set_28 : decode cX1_set 28 = .ok (.iconst 1, 1) := by decide +kernel
theorem dX1_set_29 : decode cX1_set 29 = .ok (.iaload, 1) := by decide +kernel
theorem dX1_set_30 : decode cX1_set 30 = .ok (.imul, 1) := by decide +kernel
theorem dX1_set_31 : decode cX1_set 31 = .ok (.aload 4, 2) := by decide +kernel
theorem dX1_set_33 : decode cX1_set 33 = .ok (.iconst 2, 1) := by decide +kernel
theorem dX1_set_34 : decode cX1_set 34 = .ok (.iaload, 1) := by decide +kernel
theorem dX1_set_35 : decode cX1_set 35 = .ok (.iadd, 1) := by decide +kernel
theorem dX1_set_36 : decode cX1_set 36 = .ok (.istore 5, 2) := by decide +kernel
theorem dX1_set_38 : decode cX1_set 38 = .ok (.aload 4, 2) := by decide +kernel
theorem dX1_set_40 : decode cX1_set 40 = .ok (.iconst 1, 1) := by decide +kernel
theorem dX1_set_41 : decode cX1_set 41 = .ok (.iload_n 2, 1) := by decide +kernel
theorem dX1_set_42 : decode cX1_set 42 = .ok (.iastore, 1) := by decide +kernel
theorem dX1_set_43 : decode cX1_set 43 = .ok (.aload 4, 2) := by decide +kernel
theorem dX1_set_45 : decode cX1_set 45 = .ok (.iconst 2, 1) := by decide +kernel
theorem dX1_set_46 : decode cX1_set 46 = .ok (.iload_n 3, 1) := by decide +kernel
theorem dX1_set_47 : decode cX1_set 47 = .ok (.iastore, 1) := by decide +kernel
theorem dX1_set_48 : decode cX1_set 48 = .ok (.iload 5, 2) := by decide +kernel
theorem dX1_set_50 : decode cX1_set 50 = .ok (.ireturn, 1) := by decide +kernel
set_option maxRecDepth 20000 in
theorem ggX1_flush_X1_needTank : GoodIn wsX1_flush wsX1_needTank := goodIn_ca (goodIn_r _ [7, 1, 8, 9, 10, 6, 11, 12, 13, 14, 15, 16, 17, 18, 19, 20] (by decide +kernel) (by decide +kernel)) (goodIn_sub (fun _ h => List.mem_cons_of_mem _ (List.mem_append_right _ h)) (by decide +kernel))
set_option maxRecDepth 20000 in
theorem gX1_flush_X1_needTank : GoodIn wsX1_flush (wsV RX1 42 RX1 yX1_needTank wsX1_needTank) := goodIn_app (goodIn_of _ (by decide +kernel)) ggX1_flush_X1_needTank
theorem dX1_flush_0 : decode cX1_flush 0 = .ok (.aload_n 0, 1) := by decide +kernel
theorem dX1_flush_1 : decode cX1_flush 1 = .ok (.iload_n 1, 1) := by decide +kernel
theorem dX1_flush_2 : decode cX1_flush 2 = .ok (.invokevirtual 42, 3) := by decide +kernel
theorem dX1_flush_5 : decode cX1_flush 5 = .ok (.aload_n 0, 1) := by decide +kernel
theorem dX1_flush_6 : decode cX1_flush 6 = .ok (.getfield 10, 3) := by decide +kernel
theorem dX1_flush_9 : decode cX1_flush 9 = .ok (.getfield 52, 3) := by decide +kernel
theorem dX1_flush_12 : decode cX1_flush 12 = .ok (.iload_n 1, 1) := by decide +kernel
theorem dX1_flush_13 : decode cX1_flush 13 = .ok (.aaload, 1) := by decide +kernel
theorem dX1_flush_14 : decode cX1_flush 14 = .ok (.astore_n 2, 1) := by decide +kernel
theorem dX1_flush_15 : decode cX1_flush 15 = .ok (.aload_n 2, 1) := by decide +kernel
theorem dX1_flush_16 : decode cX1_flush 16 = .ok (.iconst 4, 1) := by decide +kernel
theorem dX1_flush_17 : decode cX1_flush 17 = .ok (.iaload, 1) := by decide +kernel
theorem dX1_flush_18 : decode cX1_flush 18 = .ok (.istore_n 3, 1) := by decide +kernel
theorem dX1_flush_19 : decode cX1_flush 19 = .ok (.aload_n 2, 1) := by decide +kernel
theorem dX1_flush_20 : decode cX1_flush 20 = .ok (.iconst 4, 1) := by decide +kernel
theorem dX1_flush_21 : decode cX1_flush 21 = .ok (.iconst 0, 1) := by decide +kernel
theorem dX1_flush_22 : decode cX1_flush 22 = .ok (.iastore, 1) := by decide +kernel
theorem dX1_flush_23 : decode cX1_flush 23 = .ok (.aload_n 2, 1) := by decide +kernel
theorem dX1_flush_24 : decode cX1_flush 24 = .ok (.iconst 3, 1) := by decide +kernel
theorem dX1_flush_25 : decode cX1_flush 25 = .ok (.aload_n 2, 1) := by decide +kernel
theorem dX1_flush_26 : decode cX1_flush 26 = .ok (.iconst 3, 1) := by decide +kernel
theorem dX1_flush_27 : decode cX1_flush 27 = .ok (.iaload, 1) := by decide +kernel
theorem dX1_flush_28 : decode cX1_flush 28 = .ok (.iconst 2, 1) := by decide +kernel
theorem dX1_flush_29 : decode cX1_flush 29 = .ok (.idiv, 1) := by decide +kernel
theorem dX1_flush_30 : decode cX1_flush 30 = .ok (.iastore, 1) := by decide +kernel
theorem dX1_flush_31 : decode cX1_flush 31 = .ok (.iload_n 3, 1) := by decide +kernel
theorem dX1_flush_32 : decode cX1_flush 32 = .ok (.ireturn, 1) := by decide +kernel
set_option maxRecDepth 20000 in
theorem ggX1_scrape_X1_needPipe : GoodIn wsX1_scrape wsX1_needPipe := goodIn_ca (goodIn_r _ [7, 1, 8, 9, 10, 6, 11, 12, 13, 14, 15, 16, 17, 18, 19, 20] (by decide +kernel) (by decide +kernel)) (goodIn_sub (fun _ h => List.mem_cons_of_mem _ (List.mem_append_right _ h)) (by decide +kernel))
set_option maxRecDepth 20000 in
theorem gX1_scrape_X1_needPipe : GoodIn wsX1_scrape (wsV RX1 56 RX1 yX1_needPipe wsX1_needPipe) := goodIn_app (goodIn_of _ (by decide +kernel)) ggX1_scrape_X1_needPipe
theorem dX1_scrape_0 : decode cX1_scrape 0 = .ok (.aload_n 0, 1) := by decide +kernel
theorem dX1_scrape_1 : decode cX1_scrape 1 = .ok (.iload_n 1, 1) := by decide +kernel
theorem dX1_scrape_2 : decode cX1_scrape 2 = .ok (.invokevirtual 56, 3) := by decide +kernel
theorem dX1_scrape_5 : decode cX1_scrape 5 = .ok (.aload_n 0, 1) := by decide +kernel
theorem dX1_scrape_6 : decode cX1_scrape 6 = .ok (.getfield 10, 3) := by decide +kernel
theorem dX1_scrape_9 : decode cX1_scrape 9 = .ok (.getfield 59, 3) := by decide +kernel
theorem dX1_scrape_12 : decode cX1_scrape 12 = .ok (.iload_n 1, 1) := by decide +kernel
theorem dX1_scrape_13 : decode cX1_scrape 13 = .ok (.aaload, 1) := by decide +kernel
theorem dX1_scrape_14 : decode cX1_scrape 14 = .ok (.astore_n 2, 1) := by decide +kernel
theorem dX1_scrape_15 : decode cX1_scrape 15 = .ok (.aload_n 2, 1) := by decide +kernel
theorem dX1_scrape_16 : decode cX1_scrape 16 = .ok (.iconst 4, 1) := by decide +kernel
theorem dX1_scrape_17 : decode cX1_scrape 17 = .ok (.iaload, 1) := by decide +kernel
theorem dX1_scrape_18 : decode cX1_scrape 18 = .ok (.istore_n 3, 1) := by decide +kernel
theorem dX1_scrape_19 : decode cX1_scrape 19 = .ok (.aload_n 2, 1) := by decide +kernel
theorem dX1_scrape_20 : decode cX1_scrape 20 = .ok (.iconst 4, 1) := by decide +kernel
theorem dX1_scrape_21 : decode cX1_scrape 21 = .ok (.iconst 0, 1) := by decide +kernel
theorem dX1_scrape_22 : decode cX1_scrape 22 = .ok (.iastore, 1) := by decide +kernel
theorem dX1_scrape_23 : decode cX1_scrape 23 = .ok (.iload_n 3, 1) := by decide +kernel
theorem dX1_scrape_24 : decode cX1_scrape 24 = .ok (.ireturn, 1) := by decide +kernel
set_option maxRecDepth 20000 in
theorem ggX1_steal_X1_needPipe : GoodIn wsX1_steal wsX1_needPipe := goodIn_ca (goodIn_r _ [7, 1, 8, 9, 10, 6, 11, 12, 13, 22, 23, 24, 25, 26, 27, 28] (by decide +kernel) (by decide +kernel)) (goodIn_sub (fun _ h => List.mem_cons_of_mem _ (List.mem_append_left _ (List.mem_append_right _ h))) (by decide +kernel))
set_option maxRecDepth 20000 in
theorem gX1_steal_X1_needPipe : GoodIn wsX1_steal (wsV RX1 56 RX1 yX1_needPipe wsX1_needPipe) := goodIn_app (goodIn_of _ (by decide +kernel)) ggX1_steal_X1_needPipe
set_option maxRecDepth 20000 in
theorem ggX1_steal_X1_isWithin : GoodIn wsX1_steal wsX1_isWithin := goodIn_r _ [16] (by decide +kernel) (by decide +kernel)
set_option maxRecDepth 20000 in
theorem gX1_steal_X1_isWithin : GoodIn wsX1_steal (va_wsS RX1 19 yX1_isWithin wsX1_isWithin) := goodIn_app (goodIn_of _ (by decide +kernel)) ggX1_steal_X1_isWithin
set_option maxRecDepth 20000 in
theorem ggX1_steal_X1_needArgument : GoodIn wsX1_steal wsX1_needArgument := goodIn_ca (goodIn_r _ [19, 20, 21] (by decide +kernel) (by decide +kernel)) (goodIn_sub (fun _ h => List.mem_cons_of_mem _ (List.mem_append_right _ h)) (by decide +kernel))
set_option maxRecDepth 20000 in
theorem gX1_steal_X1_needArgument : GoodIn wsX1_steal (va_wsS RX1 23 yX1_needArgument wsX1_needArgument) := goodIn_app (goodIn_of _ (by decide +kernel)) ggX1_steal_X1_needArgument
theorem dX1_steal_0 : decode cX1_steal 0 = .ok (.aload_n 0, 1) := by decide +kernel
theorem dX1_steal_1 : decode cX1_steal 1 = .ok (.iload_n 1, 1) := by decide +kernel
theorem dX1_steal_2 : decode cX1_steal 2 = .ok (.invokevirtual 56, 3) := by decide +kernel
theorem dX1_steal_5 : decode cX1_steal 5 = .ok (.iload_n 2, 1) := by decide +kernel
theorem dX1_steal_6 : decode cX1_steal 6 = .ok (.iconst 0, 1) := by decide +kernel
theorem dX1_steal_7 : decode cX1_steal 7 = .ok (.bipush 9, 2) := by decide +kernel
theorem dX1_steal_9 : decode cX1_steal 9 = .ok (.invokestatic 19, 3) := by decide +kernel
theorem dX1_steal_12 : decode cX1_steal 12 = .ok (.invokestatic 23, 3) := by decide +kernel
theorem dX1_steal_15 : decode cX1_steal 15 = .ok (.aload_n 0, 1) := by decide +kernel
theorem dX1_steal_16 : decode cX1_steal 16 = .ok (.getfield 10, 3) := by decide +kernel
theorem dX1_steal_19 : decode cX1_steal 19 = .ok (.getfield 59, 3) := by decide +kernel
theorem dX1_steal_22 : decode cX1_steal 22 = .ok (.iload_n 1, 1) := by decide +kernel
theorem dX1_steal_23 : decode cX1_steal 23 = .ok (.aaload, 1) := by decide +kernel
theorem dX1_steal_24 : decode cX1_steal 24 = .ok (.astore_n 3, 1) := by decide +kernel
theorem dX1_steal_25 : decode cX1_steal 25 = .ok (.aload_n 3, 1) := by decide +kernel
theorem dX1_steal_26 : decode cX1_steal 26 = .ok (.bipush 9, 2) := by decide +kernel
theorem dX1_steal_28 : decode cX1_steal 28 = .ok (.iaload, 1) := by decide +kernel
theorem dX1_steal_29 : decode cX1_steal 29 = .ok (.istore 4, 2) := by decide +kernel
theorem dX1_steal_31 : decode cX1_steal 31 = .ok (.aload_n 3, 1) := by decide +kernel
theorem dX1_steal_32 : decode cX1_steal 32 = .ok (.bipush 9, 2) := by decide +kernel
theorem dX1_steal_34 : decode cX1_steal 34 = .ok (.iload_n 2, 1) := by decide +kernel
theorem dX1_steal_35 : decode cX1_steal 35 = .ok (.iastore, 1) := by decide +kernel
theorem dX1_steal_36 : decode cX1_steal 36 = .ok (.iload 4, 2) := by decide +kernel
theorem dX1_steal_38 : decode cX1_steal 38 = .ok (.ireturn, 1) := by decide +kernel
set_option maxRecDepth 20000 in
theorem ggX1_tank_X1_needTank : GoodIn wsX1_tank wsX1_needTank := goodIn_ca (goodIn_r _ [7, 1, 8, 9, 10, 6, 11, 12, 13, 17, 18, 19, 20, 21, 22, 23] (by decide +kernel) (by decide +kernel)) (goodIn_sub (fun _ h => List.mem_cons_of_mem _ (List.mem_append_right _ h)) (by decide +kernel))
set_option maxRecDepth 20000 in
theorem gX1_tank_X1_needTank : GoodIn wsX1_tank (wsV RX1 42 RX1 yX1_needTank wsX1_needTank) := goodIn_app (goodIn_of _ (by decide +kernel)) ggX1_tank_X1_needTank
set_option maxRecDepth 20000 in
theorem ggX1_tank_X1_isWithin : GoodIn wsX1_tank wsX1_isWithin := goodIn_r _ [16] (by decide +kernel) (by decide +kernel)
set_option maxRecDepth 20000 in
theorem gX1_tank_X1_isWithin : GoodIn wsX1_tank (va_wsS RX1 19 yX1_isWithin wsX1_isWithin) := goodIn_app (goodIn_of _ (by decide +kernel)) ggX1_tank_X1_isWithin
set_option maxRecDepth 20000 in
theorem ggX1_tank_X1_needIndex : GoodIn wsX1_tank wsX1_needIndex := goodIn_ca (goodIn_r _ [11, 12, 13] (by decide +kernel) (by decide +kernel)) (goodIn_sub (fun _ h => List.mem_cons_of_mem _ (List.mem_append_right _ h)) (by decide +kernel))
set_option maxRecDepth 20000 in
theorem gX1_tank_X1_needIndex : GoodIn wsX1_tank (va_wsS RX1 62 yX1_needIndex wsX1_needIndex) := goodIn_app (goodIn_of _ (by decide +kernel)) ggX1_tank_X1_needIndex
theorem dX1_tank_0 : decode cX1_tank 0 = .ok (.aload_n 0, 1) := by decide +kernel
theorem dX1_tank_1 : decode cX1_tank 1 = .ok (.iload_n 1, 1) := by decide +kernel
theorem dX1_tank_2 : decode cX1_tank 2 = .ok (.invokevirtual 42, 3) := by decide +kernel
theorem dX1_tank_5 : decode cX1_tank 5 = .ok (.iload_n 2, 1) := by decide +kernel
theorem dX1_tank_6 : decode cX1_tank 6 = .ok (.iconst 0, 1) := by decide +kernel
theorem dX1_tank_7 : decode cX1_tank 7 = .ok (.bipush 7, 2) := by decide +kernel
theorem dX1_tank_9 : decode cX1_tank 9 = .ok (.invokestatic 19, 3) := by decide +kernel
theorem dX1_tank_12 : decode cX1_tank 12 = .ok (.invokestatic 62, 3) := by decide +kernel
theorem dX1_tank_15 : decode cX1_tank 15 = .ok (.aload_n 0, 1) := by decide +kernel
theorem dX1_tank_16 : decode cX1_tank 16 = .ok (.getfield 10, 3) := by decide +kernel
theorem dX1_tank_19 : decode cX1_tank 19 = .ok (.getfield 52, 3) := by decide +kernel
theorem dX1_tank_22 : decode cX1_tank 22 = .ok (.iload_n 1, 1) := by decide +kernel
theorem dX1_tank_23 : decode cX1_tank 23 = .ok (.aaload, 1) := by decide +kernel
theorem dX1_tank_24 : decode cX1_tank 24 = .ok (.iload_n 2, 1) := by decide +kernel
theorem dX1_tank_25 : decode cX1_tank 25 = .ok (.iaload, 1) := by decide +kernel
theorem dX1_tank_26 : decode cX1_tank 26 = .ok (.ireturn, 1) := by decide +kernel
set_option maxRecDepth 20000 in
theorem ggX1_pipe_X1_needPipe : GoodIn wsX1_pipe wsX1_needPipe := goodIn_ca (goodIn_r _ [6, 1, 7, 8, 9, 5, 10, 11, 12, 37, 38, 39, 40, 41, 42, 43] (by decide +kernel) (by decide +kernel)) (goodIn_sub (fun _ h => List.mem_cons_of_mem _ (List.mem_append_right _ h)) (by decide +kernel))
set_option maxRecDepth 20000 in
theorem gX1_pipe_X1_needPipe : GoodIn wsX1_pipe (wsV RX1 56 RX1 yX1_needPipe wsX1_needPipe) := goodIn_app (goodIn_of _ (by decide +kernel)) ggX1_pipe_X1_needPipe
set_option maxRecDepth 20000 in
theorem ggX1_pipe_X1_isWithin : GoodIn wsX1_pipe wsX1_isWithin := goodIn_r _ [15] (by decide +kernel) (by decide +kernel)
set_option maxRecDepth 20000 in
theorem gX1_pipe_X1_isWithin : GoodIn wsX1_pipe (va_wsS RX1 19 yX1_isWithin wsX1_isWithin) := goodIn_app (goodIn_of _ (by decide +kernel)) ggX1_pipe_X1_isWithin
set_option maxRecDepth 20000 in
theorem ggX1_pipe_X1_needIndex : GoodIn wsX1_pipe wsX1_needIndex := goodIn_ca (goodIn_r _ [10, 11, 12] (by decide +kernel) (by decide +kernel)) (goodIn_sub (fun _ h => List.mem_cons_of_mem _ (List.mem_append_right _ h)) (by decide +kernel))
set_option maxRecDepth 20000 in
theorem gX1_pipe_X1_needIndex : GoodIn wsX1_pipe (va_wsS RX1 62 yX1_needIndex wsX1_needIndex) := goodIn_app (goodIn_of _ (by decide +kernel)) ggX1_pipe_X1_needIndex
set_option maxRecDepth 20000 in
theorem ggX1_pipe_X0_ofPipe : GoodIn wsX1_pipe wsX0_ofPipe := goodIn_r _ [20, 21, 22, 23, 24, 19, 25, 26, 27, 28, 29, 30, 31, 32, 33, 34, 35, 36, 39, 40, 41, 42, 43] (by decide +kernel) (by decide +kernel)
set_option maxRecDepth 20000 in
theorem gX1_pipe_X0_ofPipe : GoodIn wsX1_pipe (wsV RX1 65 RX0 yX0_ofPipe wsX0_ofPipe) := goodIn_app (goodIn_of _ (by decide +kernel)) ggX1_pipe_X0_ofPipe
theorem dX1_pipe_0 : decode cX1_pipe 0 = .ok (.aload_n 0, 1) := by decide +kernel
theorem dX1_pipe_1 : decode cX1_pipe 1 = .ok (.iload_n 1, 1) := by decide +kernel
theorem dX1_pipe_2 : decode cX1_pipe 2 = .ok (.invokevirtual 56, 3) := by decide +kernel
theorem dX1_pipe_5 : decode cX1_pipe 5 = .ok (.iload_n 2, 1) := by decide +kernel
theorem dX1_pipe_6 : decode cX1_pipe 6 = .ok (.iconst 0, 1) := by decide +kernel
theorem dX1_pipe_7 : decode cX1_pipe 7 = .ok (.bipush 8, 2) := by decide +kernel
theorem dX1_pipe_9 : decode cX1_pipe 9 = .ok (.invokestatic 19, 3) := by decide +kernel
theorem dX1_pipe_12 : decode cX1_pipe 12 = .ok (.invokestatic 62, 3) := by decide +kernel
theorem dX1_pipe_15 : decode cX1_pipe 15 = .ok (.aload_n 0, 1) := by decide +kernel
theorem dX1_pipe_16 : decode cX1_pipe 16 = .ok (.getfield 10, 3) := by decide +kernel
theorem dX1_pipe_19 : decode cX1_pipe 19 = .ok (.iload_n 1, 1) := by decide +kernel
theorem dX1_pipe_20 : decode cX1_pipe 20 = .ok (.iload_n 2, 1) := by decide +kernel
theorem dX1_pipe_21 : decode cX1_pipe 21 = .ok (.invokevirtual 65, 3) := by decide +kernel
theorem dX1_pipe_24 : decode cX1_pipe 24 = .ok (.ireturn, 1) := by decide +kernel
set_option maxRecDepth 20000 in
theorem ggX1_count_X1_isWithin : GoodIn wsX1_count wsX1_isWithin := goodIn_r _ [5] (by decide +kernel) (by decide +kernel)
set_option maxRecDepth 20000 in
theorem gX1_count_X1_isWithin : GoodIn wsX1_count (va_wsS RX1 19 yX1_isWithin wsX1_isWithin) := goodIn_app (goodIn_of _ (by decide +kernel)) ggX1_count_X1_isWithin
set_option maxRecDepth 20000 in
theorem ggX1_count_X1_needIndex : GoodIn wsX1_count wsX1_needIndex := goodIn_ca (goodIn_r _ [8, 9, 10] (by decide +kernel) (by decide +kernel)) (goodIn_sub (fun _ h => List.mem_cons_of_mem _ (List.mem_append_right _ h)) (by decide +kernel))
set_option maxRecDepth 20000 in
theorem gX1_count_X1_needIndex : GoodIn wsX1_count (va_wsS RX1 62 yX1_needIndex wsX1_needIndex) := goodIn_app (goodIn_of _ (by decide +kernel)) ggX1_count_X1_needIndex
set_option maxRecDepth 20000 in
theorem ggX1_count_X0_ofAll : GoodIn wsX1_count wsX0_ofAll := goodIn_r _ [15, 16, 17, 18, 19, 20, 21, 14, 22, 23, 24, 25, 26, 27, 28, 29, 30, 31, 32, 33, 34, 35, 36, 39, 40, 41, 42, 43] (by decide +kernel) (by decide +kernel)
set_option maxRecDepth 20000 in
theorem gX1_count_X0_ofAll : GoodIn wsX1_count (wsV RX1 69 RX0 yX0_ofAll wsX0_ofAll) := goodIn_app (goodIn_of _ (by decide +kernel)) ggX1_count_X0_ofAll
theorem dX1_count_0 : decode cX1_count 0 = .ok (.iload_n 1, 1) := by decide +kernel
theorem dX1_count_1 : decode cX1_count 1 = .ok (.iconst 0, 1) := by decide +kernel
theorem dX1_count_2 : decode cX1_count 2 = .ok (.bipush 8, 2) := by decide +kernel
theorem dX1_count_4 : decode cX1_count 4 = .ok (.invokestatic 19, 3) := by decide +kernel
theorem dX1_count_7 : decode cX1_count 7 = .ok (.invokestatic 62, 3) := by decide +kernel
theorem dX1_count_10 : decode cX1_count 10 = .ok (.aload_n 0, 1) := by decide +kernel
theorem dX1_count_11 : decode cX1_count 11 = .ok (.getfield 10, 3) := by decide +kernel
theorem dX1_count_14 : decode cX1_count 14 = .ok (.iload_n 1, 1) := by decide +kernel
theorem dX1_count_15 : decode cX1_count 15 = .ok (.invokevirtual 69, 3) := by decide +kernel
theorem dX1_count_18 : decode cX1_count 18 = .ok (.ireturn, 1) := by decide +kernel
set_option maxRecDepth 20000 in
theorem ggX1_reach_X1_needTank : GoodIn wsX1_reach wsX1_needTank := goodIn_ca (goodIn_r _ [6, 1, 7, 8, 9, 5, 10, 11, 12, 21, 22, 23, 24, 25, 26, 27] (by decide +kernel) (by decide +kernel)) (goodIn_sub (fun _ h => List.mem_cons_of_mem _ (List.mem_append_right _ h)) (by decide +kernel))
set_option maxRecDepth 20000 in
theorem gX1_reach_X1_needTank : GoodIn wsX1_reach (wsV RX1 42 RX1 yX1_needTank wsX1_needTank) := goodIn_app (goodIn_of _ (by decide +kernel)) ggX1_reach_X1_needTank
set_option maxRecDepth 20000 in
theorem ggX1_reach_X0_reachedFrom : GoodIn wsX1_reach wsX0_reachedFrom := goodIn_r _ [17, 18, 19, 20, 23, 24, 25, 26, 27] (by decide +kernel) (by decide +kernel)
set_option maxRecDepth 20000 in
theorem gX1_reach_X0_reachedFrom : GoodIn wsX1_reach (wsV RX1 73 RX0 yX0_reachedFrom wsX0_reachedFrom) := goodIn_app (goodIn_of _ (by decide +kernel)) ggX1_reach_X0_reachedFrom
theorem dX1_reach_0 : decode cX1_reach 0 = .ok (.aload_n 0, 1) := by decide +kernel
theorem dX1_reach_1 : decode cX1_reach 1 = .ok (.iload_n 1, 1) := by decide +kernel
theorem dX1_reach_2 : decode cX1_reach 2 = .ok (.invokevirtual 42, 3) := by decide +kernel
theorem dX1_reach_5 : decode cX1_reach 5 = .ok (.aload_n 0, 1) := by decide +kernel
theorem dX1_reach_6 : decode cX1_reach 6 = .ok (.getfield 10, 3) := by decide +kernel
theorem dX1_reach_9 : decode cX1_reach 9 = .ok (.iload_n 1, 1) := by decide +kernel
theorem dX1_reach_10 : decode cX1_reach 10 = .ok (.invokevirtual 73, 3) := by decide +kernel
theorem dX1_reach_13 : decode cX1_reach 13 = .ok (.ireturn, 1) := by decide +kernel
theorem dX1_suspect_0 : decode cX1_suspect 0 = .ok (.iconst (-1), 1) := by decide +kernel
theorem dX1_suspect_1 : decode cX1_suspect 1 = .ok (.istore_n 1, 1) := by decide +kernel
theorem dX1_suspect_2 : decode cX1_suspect 2 = .ok (.iconst 0, 1) := by decide +kernel
theorem dX1_suspect_3 : decode cX1_suspect 3 = .ok (.istore_n 2, 1) := by decide +kernel
theorem dX1_suspect_4 : decode cX1_suspect 4 = .ok (.iconst 0, 1) := by decide +kernel
theorem dX1_suspect_5 : decode cX1_suspect 5 = .ok (.istore_n 3, 1) := by decide +kernel
theorem dX1_suspect_6 : decode cX1_suspect 6 = .ok (.iload_n 3, 1) := by decide +kernel
theorem dX1_suspect_7 : decode cX1_suspect 7 = .ok (.aload_n 0, 1) := by decide +kernel
theorem dX1_suspect_8 : decode cX1_suspect 8 = .ok (.getfield 10, 3) := by decide +kernel
theorem dX1_suspect_11 : decode cX1_suspect 11 = .ok (.getfield 76, 3) := by decide +kernel
theorem dX1_suspect_14 : decode cX1_suspect 14 = .ok (.if_icmp .ge 34, 3) := by decide +kernel
theorem dX1_suspect_17 : decode cX1_suspect 17 = .ok (.aload_n 0, 1) := by decide +kernel
theorem dX1_suspect_18 : decode cX1_suspect 18 = .ok (.getfield 10, 3) := by decide +kernel
theorem dX1_suspect_21 : decode cX1_suspect 21 = .ok (.getfield 59, 3) := by decide +kernel
theorem dX1_suspect_24 : decode cX1_suspect 24 = .ok (.iload_n 3, 1) := by decide +kernel
theorem dX1_suspect_25 : decode cX1_suspect 25 = .ok (.aaload, 1) := by decide +kernel
theorem dX1_suspect_26 : decode cX1_suspect 26 = .ok (.bipush 6, 2) := by decide +kernel
theorem dX1_suspect_28 : decode cX1_suspect 28 = .ok (.iaload, 1) := by decide +kernel
theorem dX1_suspect_29 : decode cX1_suspect 29 = .ok (.istore 4, 2) := by decide +kernel
theorem dX1_suspect_31 : decode cX1_suspect 31 = .ok (.iload 4, 2) := by decide +kernel
theorem dX1_suspect_33 : decode cX1_suspect 33 = .ok (.iload_n 2, 1) := by decide +kernel
theorem dX1_suspect_34 : decode cX1_suspect 34 = .ok (.if_icmp .le 8, 3) := by decide +kernel
theorem dX1_suspect_37 : decode cX1_suspect 37 = .ok (.iload 4, 2) := by decide +kernel
theorem dX1_suspect_39 : decode cX1_suspect 39 = .ok (.istore_n 2, 1) := by decide +kernel
theorem dX1_suspect_40 : decode cX1_suspect 40 = .ok (.iload_n 3, 1) := by decide +kernel
theorem dX1_suspect_41 : decode cX1_suspect 41 = .ok (.istore_n 1, 1) := by decide +kernel
theorem dX1_suspect_42 : decode cX1_suspect 42 = .ok (.iinc 3 1, 3) := by decide +kernel
theorem dX1_suspect_45 : decode cX1_suspect 45 = .ok (.goto (-39), 3) := by decide +kernel
theorem dX1_suspect_48 : decode cX1_suspect 48 = .ok (.iload_n 1, 1) := by decide +kernel
theorem dX1_suspect_49 : decode cX1_suspect 49 = .ok (.ireturn, 1) := by decide +kernel
set_option maxRecDepth 20000 in
theorem ggX1_pass_X1_isWithin : GoodIn wsX1_pass wsX1_isWithin := goodIn_r _ [5] (by decide +kernel) (by decide +kernel)
set_option maxRecDepth 20000 in
theorem gX1_pass_X1_isWithin : GoodIn wsX1_pass (va_wsS RX1 19 yX1_isWithin wsX1_isWithin) := goodIn_app (goodIn_of _ (by decide +kernel)) ggX1_pass_X1_isWithin
set_option maxRecDepth 20000 in
theorem ggX1_pass_X1_needArgument : GoodIn wsX1_pass wsX1_needArgument := goodIn_ca (goodIn_r _ [8, 9, 10] (by decide +kernel) (by decide +kernel)) (goodIn_sub (fun _ h => List.mem_cons_of_mem _ (List.mem_append_right _ h)) (by decide +kernel))
set_option maxRecDepth 20000 in
theorem gX1_pass_X1_needArgument : GoodIn wsX1_pass (va_wsS RX1 23 yX1_needArgument wsX1_needArgument) := goodIn_app (goodIn_of _ (by decide +kernel)) ggX1_pass_X1_needArgument
set_option maxRecDepth 20000 in
theorem ggX1_pass_X0_drunkIn : GoodIn wsX1_pass wsX0_drunkIn := goodIn_r _ [15, 16, 17, 18, 14, 19, 20, 21, 22, 23, 24, 25, 26, 27, 28, 29, 30, 31, 32, 33, 34, 35, 36, 37, 38, 39, 40, 41, 42, 43, 44, 45, 46, 47, 48, 49, 50, 51, 52, 53, 54, 55, 56, 57, 58, 59, 60, 61, 62, 63, 64, 65, 68, 69, 70, 71, 72] (by decide +kernel) (by decide +kernel)
set_option maxRecDepth 20000 in
theorem gX1_pass_X0_drunkIn : GoodIn wsX1_pass (wsV RX1 80 RX0 yX0_drunkIn wsX0_drunkIn) := goodIn_app (goodIn_of _ (by decide +kernel)) ggX1_pass_X0_drunkIn
theorem dX1_pass_0 : decode cX1_pass 0 = .ok (.iload_n 1, 1) := by decide +kernel
theorem dX1_pass_1 : decode cX1_pass 1 = .ok (.iconst 1, 1) := by decide +kernel
theorem dX1_pass_2 : decode cX1_pass 2 = .ok (.bipush 100, 2) := by decide +kernel
theorem dX1_pass_4 : decode cX1_pass 4 = .ok (.invokestatic 19, 3) := by decide +kernel
theorem dX1_pass_7 : decode cX1_pass 7 = .ok (.invokestatic 23, 3) := by decide +kernel
theorem dX1_pass_10 : decode cX1_pass 10 = .ok (.aload_n 0, 1) := by decide +kernel
theorem dX1_pass_11 : decode cX1_pass 11 = .ok (.getfield 10, 3) := by decide +kernel
theorem dX1_pass_14 : decode cX1_pass 14 = .ok (.iload_n 1, 1) := by decide +kernel
theorem dX1_pass_15 : decode cX1_pass 15 = .ok (.invokevirtual 80, 3) := by decide +kernel
theorem dX1_pass_18 : decode cX1_pass 18 = .ok (.ireturn, 1) := by decide +kernel
set_option maxRecDepth 20000 in
theorem ggX1_foresee_X1_isWithin : GoodIn wsX1_foresee wsX1_isWithin := goodIn_r _ [6] (by decide +kernel) (by decide +kernel)
set_option maxRecDepth 20000 in
theorem gX1_foresee_X1_isWithin : GoodIn wsX1_foresee (va_wsS RX1 19 yX1_isWithin wsX1_isWithin) := goodIn_app (goodIn_of _ (by decide +kernel)) ggX1_foresee_X1_isWithin
set_option maxRecDepth 20000 in
theorem ggX1_foresee_X1_needArgument : GoodIn wsX1_foresee wsX1_needArgument := goodIn_ca (goodIn_r _ [9, 10, 11] (by decide +kernel) (by decide +kernel)) (goodIn_sub (fun _ h => List.mem_cons_of_mem _ (List.mem_append_left _ (List.mem_append_right _ h))) (by decide +kernel))
set_option maxRecDepth 20000 in
theorem gX1_foresee_X1_needArgument : GoodIn wsX1_foresee (va_wsS RX1 23 yX1_needArgument wsX1_needArgument) := goodIn_app (goodIn_of _ (by decide +kernel)) ggX1_foresee_X1_needArgument
set_option maxRecDepth 20000 in
theorem ggX1_foresee_X1_needIndex : GoodIn wsX1_foresee wsX1_needIndex := goodIn_ca (goodIn_r _ [14, 15, 16] (by decide +kernel) (by decide +kernel)) (goodIn_sub (fun _ h => List.mem_cons_of_mem _ (List.mem_append_right _ h)) (by decide +kernel))
set_option maxRecDepth 20000 in
theorem gX1_foresee_X1_needIndex : GoodIn wsX1_foresee (va_wsS RX1 62 yX1_needIndex wsX1_needIndex) := goodIn_app (goodIn_of _ (by decide +kernel)) ggX1_foresee_X1_needIndex
set_option maxRecDepth 20000 in
theorem ggX1_foresee_X0_copyFrom : GoodIn wsX1_foresee wsX0_copyFrom := goodIn_r _ [21, 22, 23, 24, 25, 26, 27, 28, 29, 30, 87, 88, 89, 90, 91] (by decide +kernel) (by decide +kernel)
set_option maxRecDepth 20000 in
theorem gX1_foresee_X0_copyFrom : GoodIn wsX1_foresee (wsV RX1 83 RX0 yX0_copyFrom wsX0_copyFrom) := goodIn_app (goodIn_of _ (by decide +kernel)) ggX1_foresee_X0_copyFrom
set_option maxRecDepth 20000 in
theorem ggX1_foresee_X0_drunkIn : GoodIn wsX1_foresee wsX0_drunkIn := goodIn_r _ [34, 35, 36, 37, 20, 38, 23, 25, 39, 40, 41, 42, 24, 22, 43, 44, 45, 46, 47, 48, 49, 50, 51, 52, 53, 54, 55, 56, 57, 58, 59, 60, 61, 62, 30, 63, 64, 65, 66, 67, 68, 69, 70, 71, 72, 73, 74, 75, 76, 77, 78, 79, 87, 88, 89, 90, 91] (by decide +kernel) (by decide +kernel)
set_option maxRecDepth 20000 in
theorem gX1_foresee_X0_drunkIn : GoodIn wsX1_foresee (wsV RX1 80 RX0 yX0_drunkIn wsX0_drunkIn) := goodIn_app (goodIn_of _ (by decide +kernel)) ggX1_foresee_X0_drunkIn
set_option maxRecDepth 20000 in
theorem ggX1_foresee_X0_sumOfPipes : GoodIn wsX1_foresee wsX0_sumOfPipes := goodIn_r _ [83, 24, 30, 87, 88, 89, 90, 91] (by decide +kernel) (by decide +kernel)
set_option maxRecDepth 20000 in
theorem gX1_foresee_X0_sumOfPipes : GoodIn wsX1_foresee (wsV RX1 87 RX0 yX0_sumOfPipes wsX0_sumOfPipes) := goodIn_app (goodIn_of _ (by decide +kernel)) ggX1_foresee_X0_sumOfPipes
set_option maxRecDepth 20000 in
theorem ggX1_foresee_X0_sumOfTanks : GoodIn wsX1_foresee wsX0_sumOfTanks := goodIn_r _ [38, 23, 25, 87, 88, 89, 90, 91] (by decide +kernel) (by decide +kernel)
set_option maxRecDepth 20000 in
theorem gX1_foresee_X0_sumOfTanks : GoodIn wsX1_foresee (wsV RX1 90 RX0 yX0_sumOfTanks wsX0_sumOfTanks) := goodIn_app (goodIn_of _ (by decide +kernel)) ggX1_foresee_X0_sumOfTanks
theorem dX1_foresee_0 : decode cX1_foresee 0 = .ok (.iload_n 1, 1) := by decide +kernel
theorem dX1_foresee_1 : decode cX1_foresee 1 = .ok (.iconst 1, 1) := by decide +kernel
theorem dX1_foresee_2 : decode cX1_foresee 2 = .ok (.bipush 100, 2) := by decide +kernel
theorem dX1_foresee_4 : decode cX1_foresee 4 = .ok (.invokestatic 19, 3) := by decide +kernel
theorem dX1_foresee_7 : decode cX1_foresee 7 = .ok (.invokestatic 23, 3) := by decide +kernel
theorem dX1_foresee_10 : decode cX1_foresee 10 = .ok (.iload_n 2, 1) := by decide +kernel
theorem dX1_foresee_11 : decode cX1_foresee 11 = .ok (.iconst 0, 1) := by decide +kernel
theorem dX1_foresee_12 : decode cX1_foresee 12 = .ok (.iconst 3, 1) := by decide +kernel
theorem dX1_foresee_13 : decode cX1_foresee 13 = .ok (.invokestatic 19, 3) := by decide +kernel
theorem dX1_foresee_16 : decode cX1_foresee 16 = .ok (.invokestatic 62, 3) := by decide +kernel
theorem dX1_foresee_19 : decode cX1_foresee 19 = .ok (.aload_n 0, 1) := by decide +kernel
theorem dX1_foresee_20 : decode cX1_foresee 20 = .ok (.getfield 16, 3) := by decide +kernel
theorem dX1_foresee_23 : decode cX1_foresee 23 = .ok (.aload_n 0, 1) := by decide +kernel
theorem dX1_foresee_24 : decode cX1_foresee 24 = .ok (.getfield 10, 3) := by decide +kernel
theorem dX1_foresee_27 : decode cX1_foresee 27 = .ok (.invokevirtual 83, 3) := by decide +kernel
theorem dX1_foresee_30 : decode cX1_foresee 30 = .ok (.aload_n 0, 1) := by decide +kernel
theorem dX1_foresee_31 : decode cX1_foresee 31 = .ok (.getfield 16, 3) := by decide +kernel
theorem dX1_foresee_34 : decode cX1_foresee 34 = .ok (.iload_n 1, 1) := by decide +kernel
theorem dX1_foresee_35 : decode cX1_foresee 35 = .ok (.invokevirtual 80, 3) := by decide +kernel
theorem dX1_foresee_38 : decode cX1_foresee 38 = .ok (.istore_n 3, 1) := by decide +kernel
theorem dX1_foresee_39 : decode cX1_foresee 39 = .ok (.iload_n 2, 1) := by decide +kernel
theorem dX1_foresee_40 : decode cX1_foresee 40 = .ok (.tableswitch 59 0 2 #[28, 30, 50], 28) := by decide +kernel
theorem dX1_foresee_68 : decode cX1_foresee 68 = .ok (.iload_n 3, 1) := by decide +kernel
theorem dX1_foresee_69 : decode cX1_foresee 69 = .ok (.ireturn, 1) := by decide +kernel
theorem dX1_foresee_70 : decode cX1_foresee 70 = .ok (.aload_n 0, 1) := by decide +kernel
theorem dX1_foresee_71 : decode cX1_foresee 71 = .ok (.getfield 16, 3) := by decide +kernel
theorem dX1_foresee_74 : decode cX1_foresee 74 = .ok (.bipush 7, 2) := by decide +kernel
theorem dX1_foresee_76 : decode cX1_foresee 76 = .ok (.invokevirtual 87, 3) := by decide +kernel
theorem dX1_foresee_79 : decode cX1_foresee 79 = .ok (.aload_n 0, 1) := by decide +kernel
theorem dX1_foresee_80 : decode cX1_foresee 80 = .ok (.getfield 10, 3) := by decide +kernel
theorem dX1_foresee_83 : decode cX1_foresee 83 = .ok (.bipush 7, 2) := by decide +kernel
theorem dX1_foresee_85 : decode cX1_foresee 85 = .ok (.invokevirtual 87, 3) := by decide +kernel
theorem dX1_foresee_88 : decode cX1_foresee 88 = .ok (.isub, 1) := by decide +kernel
theorem dX1_foresee_89 : decode cX1_foresee 89 = .ok (.ireturn, 1) := by decide +kernel
theorem dX1_foresee_90 : decode cX1_foresee 90 = .ok (.aload_n 0, 1) := by decide +kernel
theorem dX1_foresee_91 : decode cX1_foresee 91 = .ok (.getfield 16, 3) := by decide +kernel
theorem dX1_foresee_94 : decode cX1_foresee 94 = .ok (.iconst 3, 1) := by decide +kernel
theorem dX1_foresee_95 : decode cX1_foresee 95 = .ok (.invokevirtual 90, 3) := by decide +kernel
theorem dX1_foresee_98 : decode cX1_foresee 98 = .ok (.ireturn, 1) := by decide +kernel
theorem dX1_foresee_99 : decode cX1_foresee 99 = .ok (.aload_n 0, 1) := by decide +kernel
theorem dX1_foresee_100 : decode cX1_foresee 100 = .ok (.getfield 16, 3) := by decide +kernel
theorem dX1_foresee_103 : decode cX1_foresee 103 = .ok (.iconst 4, 1) := by decide +kernel
theorem dX1_foresee_104 : decode cX1_foresee 104 = .ok (.invokevirtual 87, 3) := by decide +kernel
theorem dX1_foresee_107 : decode cX1_foresee 107 = .ok (.ireturn, 1) := by decide +kernel
set_option maxRecDepth 20000 in
theorem ggX1_sated_X1_needTank : GoodIn wsX1_sated wsX1_needTank := goodIn_ca (goodIn_r _ [7, 2, 8, 9, 10, 6, 11, 12, 13, 73, 74, 75, 76, 77, 78, 79] (by decide +kernel) (by decide +kernel)) (goodIn_sub (fun _ h => List.mem_cons_of_mem _ (List.mem_append_right _ h)) (by decide +kernel))
set_option maxRecDepth 20000 in
theorem gX1_sated_X1_needTank : GoodIn wsX1_sated (wsV RX1 42 RX1 yX1_needTank wsX1_needTank) := goodIn_app (goodIn_of _ (by decide +kernel)) ggX1_sated_X1_needTank
set_option maxRecDepth 20000 in
theorem ggX1_sated_X0_copyFrom : GoodIn wsX1_sated wsX0_copyFrom := goodIn_r _ [18, 19, 20, 21, 22, 23, 24, 25, 26, 27, 75, 76, 77, 78, 79] (by decide +kernel) (by decide +kernel)
set_option maxRecDepth 20000 in
theorem gX1_sated_X0_copyFrom : GoodIn wsX1_sated (wsV RX1 83 RX0 yX0_copyFrom wsX0_copyFrom) := goodIn_app (goodIn_of _ (by decide +kernel)) ggX1_sated_X0_copyFrom
set_option maxRecDepth 20000 in
theorem ggX1_sated_X0_goThroughDay : GoodIn wsX1_sated wsX0_goThroughDay := goodIn_r _ [31, 20, 22, 21, 19, 32, 33, 17, 34, 35, 36, 37, 38, 39, 40, 41, 42, 43, 44, 45, 46, 47, 48, 49, 50, 51, 27, 52, 53, 54, 55, 56, 57, 58, 59, 60, 61, 62, 63, 64, 65, 66, 67, 68, 75, 76, 77, 78, 79] (by decide +kernel) (by decide +kernel)
set_option maxRecDepth 20000 in
theorem gX1_sated_X0_goThroughDay : GoodIn wsX1_sated (wsV RX1 93 RX0 yX0_goThroughDay wsX0_goThroughDay) := goodIn_app (goodIn_of _ (by decide +kernel)) ggX1_sated_X0_goThroughDay
set_option maxRecDepth 20000 in
theorem ggX1_sated_X0_isThirsty : GoodIn wsX1_sated wsX0_isThirsty := goodIn_r _ [72, 22, 75, 76, 77, 78, 79] (by decide +kernel) (by decide +kernel)
set_option maxRecDepth 20000 in
theorem gX1_sated_X0_isThirsty : GoodIn wsX1_sated (wsV RX1 96 RX0 yX0_isThirsty wsX0_isThirsty) := goodIn_app (goodIn_of _ (by decide +kernel)) ggX1_sated_X0_isThirsty
theorem dX1_sated_0 : decode cX1_sated 0 = .ok (.aload_n 0, 1) := by decide +kernel
theorem dX1_sated_1 : decode cX1_sated 1 = .ok (.iload_n 1, 1) := by decide +kernel
theorem dX1_sated_2 : decode cX1_sated 2 = .ok (.invokevirtual 42, 3) := by decide +kernel
theorem dX1_sated_5 : decode cX1_sated 5 = .ok (.aload_n 0, 1) := by decide +kernel
theorem dX1_sated_6 : decode cX1_sated 6 = .ok (.getfield 16, 3) := by decide +kernel
theorem dX1_sated_9 : decode cX1_sated 9 = .ok (.aload_n 0, 1) := by decide +kernel
theorem dX1_sated_10 : decode cX1_sated 10 = .ok (.getfield 10, 3) := by decide +kernel
theorem dX1_sated_13 : decode cX1_sated 13 = .ok (.invokevirtual 83, 3) := by decide +kernel
theorem dX1_sated_16 : decode cX1_sated 16 = .ok (.iconst 1, 1) := by decide +kernel
theorem dX1_sated_17 : decode cX1_sated 17 = .ok (.istore_n 2, 1) := by decide +kernel
theorem dX1_sated_18 : decode cX1_sated 18 = .ok (.iload_n 2, 1) := by decide +kernel
theorem dX1_sated_19 : decode cX1_sated 19 = .ok (.bipush 100, 2) := by decide +kernel
theorem dX1_sated_21 : decode cX1_sated 21 = .ok (.if_icmp .gt 29, 3) := by decide +kernel
theorem dX1_sated_24 : decode cX1_sated 24 = .ok (.aload_n 0, 1) := by decide +kernel
theorem dX1_sated_25 : decode cX1_sated 25 = .ok (.getfield 16, 3) := by decide +kernel
theorem dX1_sated_28 : decode cX1_sated 28 = .ok (.invokevirtual 93, 3) := by decide +kernel
theorem dX1_sated_31 : decode cX1_sated 31 = .ok (.aload_n 0, 1) := by decide +kernel
theorem dX1_sated_32 : decode cX1_sated 32 = .ok (.getfield 16, 3) := by decide +kernel
theorem dX1_sated_35 : decode cX1_sated 35 = .ok (.iload_n 1, 1) := by decide +kernel
theorem dX1_sated_36 : decode cX1_sated 36 = .ok (.invokevirtual 96, 3) := by decide +kernel
theorem dX1_sated_39 : decode cX1_sated 39 = .ok (.ifCond .ne 5, 3) := by decide +kernel
theorem dX1_sated_42 : decode cX1_sated 42 = .ok (.iload_n 2, 1) := by decide +kernel
theorem dX1_sated_43 : decode cX1_sated 43 = .ok (.ireturn, 1) := by decide +kernel
theorem dX1_sated_44 : decode cX1_sated 44 = .ok (.iinc 2 1, 3) := by decide +kernel
theorem dX1_sated_47 : decode cX1_sated 47 = .ok (.goto (-29), 3) := by decide +kernel
theorem dX1_sated_50 : decode cX1_sated 50 = .ok (.iconst (-1), 1) := by decide +kernel
theorem dX1_sated_51 : decode cX1_sated 51 = .ok (.ireturn, 1) := by decide +kernel
set_option maxRecDepth 20000 in
theorem ggX1_mean_X0_sumOfTanks : GoodIn wsX1_mean wsX0_sumOfTanks := goodIn_r _ [7, 8, 9, 12, 13, 14, 15, 16] (by decide +kernel) (by decide +kernel)
set_option maxRecDepth 20000 in
theorem gX1_mean_X0_sumOfTanks : GoodIn wsX1_mean (wsV RX1 90 RX0 yX0_sumOfTanks wsX0_sumOfTanks) := goodIn_app (goodIn_of _ (by decide +kernel)) ggX1_mean_X0_sumOfTanks
theorem dX1_mean_0 : decode cX1_mean 0 = .ok (.aload_n 0, 1) := by decide +kernel
theorem dX1_mean_1 : decode cX1_mean 1 = .ok (.getfield 10, 3) := by decide +kernel
theorem dX1_mean_4 : decode cX1_mean 4 = .ok (.getfield 100, 3) := by decide +kernel
theorem dX1_mean_7 : decode cX1_mean 7 = .ok (.ifCond .ne 5, 3) := by decide +kernel
theorem dX1_mean_10 : decode cX1_mean 10 = .ok (.dconst 0, 1) := by decide +kernel
theorem dX1_mean_11 : decode cX1_mean 11 = .ok (.dreturn, 1) := by decide +kernel
theorem dX1_mean_12 : decode cX1_mean 12 = .ok (.aload_n 0, 1) := by decide +kernel
theorem dX1_mean_13 : decode cX1_mean 13 = .ok (.getfield 10, 3) := by decide +kernel
theorem dX1_mean_16 : decode cX1_mean 16 = .ok (.bipush 6, 2) := by decide +kernel
theorem dX1_mean_18 : decode cX1_mean 18 = .ok (.invokevirtual 90, 3) := by decide +kernel
theorem dX1_mean_21 : decode cX1_mean 21 = .ok (.i2d, 1) := by decide +kernel
theorem dX1_mean_22 : decode cX1_mean 22 = .ok (.aload_n 0, 1) := by decide +kernel
theorem dX1_mean_23 : decode cX1_mean 23 = .ok (.getfield 10, 3) := by decide +kernel
theorem dX1_mean_26 : decode cX1_mean 26 = .ok (.getfield 100, 3) := by decide +kernel
theorem dX1_mean_29 : decode cX1_mean 29 = .ok (.i2d, 1) := by decide +kernel
theorem dX1_mean_30 : decode cX1_mean 30 = .ok (.ddiv, 1) := by decide +kernel
theorem dX1_mean_31 : decode cX1_mean 31 = .ok (.dreturn, 1) := by decide +kernel
theorem dX1_isWithin_0 : decode cX1_isWithin 0 = .ok (.iload_n 0, 1) := by decide +kernel
theorem dX1_isWithin_1 : decode cX1_isWithin 1 = .ok (.iload_n 1, 1) := by decide +kernel
theorem dX1_isWithin_2 : decode cX1_isWithin 2 = .ok (.if_icmp .lt 12, 3) := by decide +kernel
theorem dX1_isWithin_5 : decode cX1_isWithin 5 = .ok (.iload_n 0, 1) := by decide +kernel
theorem dX1_isWithin_6 : decode cX1_isWithin 6 = .ok (.iload_n 2, 1) := by decide +kernel
theorem dX1_isWithin_7 : decode cX1_isWithin 7 = .ok (.if_icmp .gt 7, 3) := by decide +kernel
theorem dX1_isWithin_10 : decode cX1_isWithin 10 = .ok (.iconst 1, 1) := by decide +kernel
theorem dX1_isWithin_11 : decode cX1_isWithin 11 = .ok (.goto 4, 3) := by decide +kernel
theorem dX1_isWithin_14 : decode cX1_isWithin 14 = .ok (.iconst 0, 1) := by decide +kernel
theorem dX1_isWithin_15 : decode cX1_isWithin 15 = .ok (.ireturn, 1) := by decide +kernel
set_option maxRecDepth 20000 in
theorem ggX1_isSpringAndThirst_X1_isWithin : GoodIn wsX1_isSpringAndThirst wsX1_isWithin := goodIn_r _ [4] (by decide +kernel) (by decide +kernel)
set_option maxRecDepth 20000 in
theorem gX1_isSpringAndThirst_X1_isWithin : GoodIn wsX1_isSpringAndThirst (va_wsS RX1 19 yX1_isWithin wsX1_isWithin) := goodIn_app (goodIn_of _ (by decide +kernel)) ggX1_isSpringAndThirst_X1_isWithin
theorem dX1_isSpringAndThirst_0 : decode cX1_isSpringAndThirst 0 = .ok (.iload_n 0, 1) := by decide +kernel
theorem dX1_isSpringAndThirst_1 : decode cX1_isSpringAndThirst 1 = .ok (.iconst 0, 1) := by decide +kernel
theorem dX1_isSpringAndThirst_2 : decode cX1_isSpringAndThirst 2 = .ok (.bipush 20, 2) := by decide +kernel
theorem dX1_isSpringAndThirst_4 : decode cX1_isSpringAndThirst 4 = .ok (.invokestatic 19, 3) := by decide +kernel
theorem dX1_isSpringAndThirst_7 : decode cX1_isSpringAndThirst 7 = .ok (.ifCond .eq 17, 3) := by decide +kernel
theorem dX1_isSpringAndThirst_10 : decode cX1_isSpringAndThirst 10 = .ok (.iload_n 1, 1) := by decide +kernel
theorem dX1_isSpringAndThirst_11 : decode cX1_isSpringAndThirst 11 = .ok (.iconst 0, 1) := by decide +kernel
theorem dX1_isSpringAndThirst_12 : decode cX1_isSpringAndThirst 12 = .ok (.bipush 20, 2) := by decide +kernel
theorem dX1_isSpringAndThirst_14 : decode cX1_isSpringAndThirst 14 = .ok (.invokestatic 19, 3) := by decide +kernel
theorem dX1_isSpringAndThirst_17 : decode cX1_isSpringAndThirst 17 = .ok (.ifCond .eq 7, 3) := by decide +kernel
theorem dX1_isSpringAndThirst_20 : decode cX1_isSpringAndThirst 20 = .ok (.iconst 1, 1) := by decide +kernel
theorem dX1_isSpringAndThirst_21 : decode cX1_isSpringAndThirst 21 = .ok (.goto 4, 3) := by decide +kernel
theorem dX1_isSpringAndThirst_24 : decode cX1_isSpringAndThirst 24 = .ok (.iconst 0, 1) := by decide +kernel
theorem dX1_isSpringAndThirst_25 : decode cX1_isSpringAndThirst 25 = .ok (.ireturn, 1) := by decide +kernel
set_option maxRecDepth 20000 in
theorem ggX1_needTank_X1_needIndex : GoodIn wsX1_needTank wsX1_needIndex := goodIn_ca (goodIn_r _ [6, 7, 8] (by decide +kernel) (by decide +kernel)) (goodIn_sub (fun _ h => List.mem_cons_of_mem _ (List.mem_append_right _ h)) (by decide +kernel))
set_option maxRecDepth 20000 in
theorem gX1_needTank_X1_needIndex : GoodIn wsX1_needTank (va_wsS RX1 62 yX1_needIndex wsX1_needIndex) := goodIn_app (goodIn_of _ (by decide +kernel)) ggX1_needTank_X1_needIndex
theorem dX1_needTank_0 : decode cX1_needTank 0 = .ok (.iload_n 1, 1) := by decide +kernel
theorem dX1_needTank_1 : decode cX1_needTank 1 = .ok (.ifCond .lt 18, 3) := by decide +kernel
theorem dX1_needTank_4 : decode cX1_needTank 4 = .ok (.iload_n 1, 1) := by decide +kernel
theorem dX1_needTank_5 : decode cX1_needTank 5 = .ok (.aload_n 0, 1) := by decide +kernel
theorem dX1_needTank_6 : decode cX1_needTank 6 = .ok (.getfield 10, 3) := by decide +kernel
theorem dX1_needTank_9 : decode cX1_needTank 9 = .ok (.getfield 107, 3) := by decide +kernel
theorem dX1_needTank_12 : decode cX1_needTank 12 = .ok (.if_icmp .ge 7, 3) := by decide +kernel
theorem dX1_needTank_15 : decode cX1_needTank 15 = .ok (.iconst 1, 1) := by decide +kernel
theorem dX1_needTank_16 : decode cX1_needTank 16 = .ok (.goto 4, 3) := by decide +kernel
theorem dX1_needTank_19 : decode cX1_needTank 19 = .ok (.iconst 0, 1) := by decide +kernel
theorem dX1_needTank_20 : decode cX1_needTank 20 = .ok (.invokestatic 62, 3) := by decide +kernel
theorem dX1_needTank_23 : decode cX1_needTank 23 = .ok (.return_, 1) := by decide +kernel
set_option maxRecDepth 20000 in
theorem ggX1_needPipe_X1_needIndex : GoodIn wsX1_needPipe wsX1_needIndex := goodIn_ca (goodIn_r _ [6, 7, 8] (by decide +kernel) (by decide +kernel)) (goodIn_sub (fun _ h => List.mem_cons_of_mem _ (List.mem_append_right _ h)) (by decide +kernel))
set_option maxRecDepth 20000 in
theorem gX1_needPipe_X1_needIndex : GoodIn wsX1_needPipe (va_wsS RX1 62 yX1_needIndex wsX1_needIndex) := goodIn_app (goodIn_of _ (by decide +kernel)) ggX1_needPipe_X1_needIndex
theorem dX1_needPipe_0 : decode cX1_needPipe 0 = .ok (.iload_n 1, 1) := by decide +kernel
theorem dX1_needPipe_1 : decode cX1_needPipe 1 = .ok (.ifCond .lt 18, 3) := by decide +kernel
theorem dX1_needPipe_4 : decode cX1_needPipe 4 = .ok (.iload_n 1, 1) := by decide +kernel
theorem dX1_needPipe_5 : decode cX1_needPipe 5 = .ok (.aload_n 0, 1) := by decide +kernel
theorem dX1_needPipe_6 : decode cX1_needPipe 6 = .ok (.getfield 10, 3) := by decide +kernel
theorem dX1_needPipe_9 : decode cX1_needPipe 9 = .ok (.getfield 76, 3) := by decide +kernel
theorem dX1_needPipe_12 : decode cX1_needPipe 12 = .ok (.if_icmp .ge 7, 3) := by decide +kernel
theorem dX1_needPipe_15 : decode cX1_needPipe 15 = .ok (.iconst 1, 1) := by decide +kernel
theorem dX1_needPipe_16 : decode cX1_needPipe 16 = .ok (.goto 4, 3) := by decide +kernel
theorem dX1_needPipe_19 : decode cX1_needPipe 19 = .ok (.iconst 0, 1) := by decide +kernel
theorem dX1_needPipe_20 : decode cX1_needPipe 20 = .ok (.invokestatic 62, 3) := by decide +kernel
theorem dX1_needPipe_23 : decode cX1_needPipe 23 = .ok (.return_, 1) := by decide +kernel
theorem dX1_needIndex_0 : decode cX1_needIndex 0 = .ok (.iload_n 0, 1) := by decide +kernel
theorem dX1_needIndex_1 : decode cX1_needIndex 1 = .ok (.ifCond .ne 13, 3) := by decide +kernel
theorem dX1_needIndex_4 : decode cX1_needIndex 4 = .ok (.new 110, 3) := by decide +kernel
theorem dX1_needIndex_7 : decode cX1_needIndex 7 = .ok (.dup, 1) := by decide +kernel
theorem dX1_needIndex_8 : decode cX1_needIndex 8 = .ok (.ldc 112, 2) := by decide +kernel
theorem dX1_needIndex_10 : decode cX1_needIndex 10 = .ok (.invokespecial 114, 3) := by decide +kernel
theorem dX1_needIndex_13 : decode cX1_needIndex 13 = .ok (.athrow, 1) := by decide +kernel
theorem dX1_needIndex_14 : decode cX1_needIndex 14 = .ok (.return_, 1) := by decide +kernel
theorem dX1_needArgument_0 : decode cX1_needArgument 0 = .ok (.iload_n 0, 1) := by decide +kernel
theorem dX1_needArgument_1 : decode cX1_needArgument 1 = .ok (.ifCond .ne 13, 3) := by decide +kernel
theorem dX1_needArgument_4 : decode cX1_needArgument 4 = .ok (.new 115, 3) := by decide +kernel
theorem dX1_needArgument_7 : decode cX1_needArgument 7 = .ok (.dup, 1) := by decide +kernel
theorem dX1_needArgument_8 : decode cX1_needArgument 8 = .ok (.ldc 117, 2) := by decide +kernel
theorem dX1_needArgument_10 : decode cX1_needArgument 10 = .ok (.invokespecial 119, 3) := by decide +kernel
theorem dX1_needArgument_13 : decode cX1_needArgument 13 = .ok (.athrow, 1) := by decide +kernel
theorem dX1_needArgument_14 : decode cX1_needArgument 14 = .ok (.return_, 1) := by decide +kernel

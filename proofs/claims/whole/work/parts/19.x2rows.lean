theorem dX2_init_0 : decode cX2_init 0 = .ok (.aload_n 0, 1) := by decide +kernel
theorem dX2_init_1 : decode cX2_init 1 = .ok (.invokespecial 1, 3) := by decide +kernel
theorem dX2_init_4 : decode cX2_init 4 = .ok (.aload_n 0, 1) := by decide +kernel
theorem dX2_init_5 : decode cX2_init 5 = .ok (.bipush 80, 2) := by decide +kernel
theorem dX2_init_7 : decode cX2_init 7 = .ok (.newarray .int, 2) := by decide +kernel
theorem dX2_init_9 : decode cX2_init 9 = .ok (.putfield 9, 3) := by decide +kernel
theorem dX2_init_12 : decode cX2_init 12 = .ok (.aload_n 0, 1) := by decide +kernel
theorem dX2_init_13 : decode cX2_init 13 = .ok (.bipush 126, 2) := by decide +kernel
theorem dX2_init_15 : decode cX2_init 15 = .ok (.newarray .int, 2) := by decide +kernel
theorem dX2_init_17 : decode cX2_init 17 = .ok (.putfield 13, 3) := by decide +kernel
theorem dX2_init_20 : decode cX2_init 20 = .ok (.aload_n 0, 1) := by decide +kernel
theorem dX2_init_21 : decode cX2_init 21 = .ok (.iconst 1, 1) := by decide +kernel
theorem dX2_init_22 : decode cX2_init 22 = .ok (.newarray .int, 2) := by decide +kernel
theorem dX2_init_24 : decode cX2_init 24 = .ok (.dup, 1) := by decide +kernel
theorem dX2_init_25 : decode cX2_init 25 = .ok (.iconst 0, 1) := by decide +kernel
theorem dX2_init_26 : decode cX2_init 26 = .ok (.iconst 0, 1) := by decide +kernel
theorem dX2_init_27 : decode cX2_init 27 = .ok (.iastore, 1) := by decide +kernel
theorem dX2_init_28 : decode cX2_init 28 = .ok (.putfield 16, 3) := by decide +kernel
theorem dX2_init_31 : decode cX2_init 31 = .ok (.return_, 1) := by decide +kernel
theorem dX2_thrown_0 : decode cX2_thrown 0 = .ok (.aload_n 0, 1) := by decide +kernel
theorem dX2_thrown_1 : decode cX2_thrown 1 = .ok (.getfield 19, 3) := by decide +kernel
theorem dX2_thrown_4 : decode cX2_thrown 4 = .ok (.ireturn, 1) := by decide +kernel
theorem dX2_fail_0 : decode cX2_fail 0 = .ok (.aload_n 0, 1) := by decide +kernel
theorem dX2_fail_1 : decode cX2_fail 1 = .ok (.iload_n 1, 1) := by decide +kernel
theorem dX2_fail_2 : decode cX2_fail 2 = .ok (.putfield 19, 3) := by decide +kernel
theorem dX2_fail_5 : decode cX2_fail 5 = .ok (.iconst 0, 1) := by decide +kernel
theorem dX2_fail_6 : decode cX2_fail 6 = .ok (.ireturn, 1) := by decide +kernel
theorem dX2_isIn_0 : decode cX2_isIn 0 = .ok (.iload_n 0, 1) := by decide +kernel
theorem dX2_isIn_1 : decode cX2_isIn 1 = .ok (.iload_n 1, 1) := by decide +kernel
theorem dX2_isIn_2 : decode cX2_isIn 2 = .ok (.if_icmp .lt 12, 3) := by decide +kernel
theorem dX2_isIn_5 : decode cX2_isIn 5 = .ok (.iload_n 0, 1) := by decide +kernel
theorem dX2_isIn_6 : decode cX2_isIn 6 = .ok (.iload_n 2, 1) := by decide +kernel
theorem dX2_isIn_7 : decode cX2_isIn 7 = .ok (.if_icmp .gt 7, 3) := by decide +kernel
theorem dX2_isIn_10 : decode cX2_isIn 10 = .ok (.iconst 1, 1) := by decide +kernel
theorem dX2_isIn_11 : decode cX2_isIn 11 = .ok (.goto 4, 3) := by decide +kernel
theorem dX2_isIn_14 : decode cX2_isIn 14 = .ok (.iconst 0, 1) := by decide +kernel
theorem dX2_isIn_15 : decode cX2_isIn 15 = .ok (.ireturn, 1) := by decide +kernel
set_option maxRecDepth 20000 in
theorem ggX2_isTank_X2_isIn : GoodIn wsX2_isTank wsX2_isIn := goodIn_r _ [5] (by decide +kernel) (by decide +kernel)
set_option maxRecDepth 20000 in
theorem gX2_isTank_X2_isIn : GoodIn wsX2_isTank (va_wsS RX2 26 yX2_isIn wsX2_isIn) := goodIn_app (goodIn_of _ (by decide +kernel)) ggX2_isTank_X2_isIn
theorem dX2_isTank_0 : decode cX2_isTank 0 = .ok (.iload_n 1, 1) := by decide +kernel
theorem dX2_isTank_1 : decode cX2_isTank 1 = .ok (.iconst 0, 1) := by decide +kernel
theorem dX2_isTank_2 : decode cX2_isTank 2 = .ok (.aload_n 0, 1) := by decide +kernel
theorem dX2_isTank_3 : decode cX2_isTank 3 = .ok (.getfield 23, 3) := by decide +kernel
theorem dX2_isTank_6 : decode cX2_isTank 6 = .ok (.iconst 1, 1) := by decide +kernel
theorem dX2_isTank_7 : decode cX2_isTank 7 = .ok (.isub, 1) := by decide +kernel
theorem dX2_isTank_8 : decode cX2_isTank 8 = .ok (.invokestatic 26, 3) := by decide +kernel
theorem dX2_isTank_11 : decode cX2_isTank 11 = .ok (.ireturn, 1) := by decide +kernel
set_option maxRecDepth 20000 in
theorem ggX2_isPipe_X2_isIn : GoodIn wsX2_isPipe wsX2_isIn := goodIn_r _ [5] (by decide +kernel) (by decide +kernel)
set_option maxRecDepth 20000 in
theorem gX2_isPipe_X2_isIn : GoodIn wsX2_isPipe (va_wsS RX2 26 yX2_isIn wsX2_isIn) := goodIn_app (goodIn_of _ (by decide +kernel)) ggX2_isPipe_X2_isIn
theorem dX2_isPipe_0 : decode cX2_isPipe 0 = .ok (.iload_n 1, 1) := by decide +kernel
theorem dX2_isPipe_1 : decode cX2_isPipe 1 = .ok (.iconst 0, 1) := by decide +kernel
theorem dX2_isPipe_2 : decode cX2_isPipe 2 = .ok (.aload_n 0, 1) := by decide +kernel
theorem dX2_isPipe_3 : decode cX2_isPipe 3 = .ok (.getfield 30, 3) := by decide +kernel
theorem dX2_isPipe_6 : decode cX2_isPipe 6 = .ok (.iconst 1, 1) := by decide +kernel
theorem dX2_isPipe_7 : decode cX2_isPipe 7 = .ok (.isub, 1) := by decide +kernel
theorem dX2_isPipe_8 : decode cX2_isPipe 8 = .ok (.invokestatic 26, 3) := by decide +kernel
theorem dX2_isPipe_11 : decode cX2_isPipe 11 = .ok (.ireturn, 1) := by decide +kernel
theorem dX2_la_0 : decode cX2_la 0 = .ok (.aload_n 0, 1) := by decide +kernel
theorem dX2_la_1 : decode cX2_la 1 = .ok (.getfield 9, 3) := by decide +kernel
theorem dX2_la_4 : decode cX2_la 4 = .ok (.bipush 8, 2) := by decide +kernel
theorem dX2_la_6 : decode cX2_la 6 = .ok (.iload_n 1, 1) := by decide +kernel
theorem dX2_la_7 : decode cX2_la 7 = .ok (.imul, 1) := by decide +kernel
theorem dX2_la_8 : decode cX2_la 8 = .ok (.iload_n 2, 1) := by decide +kernel
theorem dX2_la_9 : decode cX2_la 9 = .ok (.iadd, 1) := by decide +kernel
theorem dX2_la_10 : decode cX2_la 10 = .ok (.iaload, 1) := by decide +kernel
theorem dX2_la_11 : decode cX2_la 11 = .ok (.ireturn, 1) := by decide +kernel
theorem dX2_setTank_0 : decode cX2_setTank 0 = .ok (.aload_n 0, 1) := by decide +kernel
theorem dX2_setTank_1 : decode cX2_setTank 1 = .ok (.getfield 9, 3) := by decide +kernel
theorem dX2_setTank_4 : decode cX2_setTank 4 = .ok (.bipush 8, 2) := by decide +kernel
theorem dX2_setTank_6 : decode cX2_setTank 6 = .ok (.iload_n 1, 1) := by decide +kernel
theorem dX2_setTank_7 : decode cX2_setTank 7 = .ok (.imul, 1) := by decide +kernel
theorem dX2_setTank_8 : decode cX2_setTank 8 = .ok (.iload_n 2, 1) := by decide +kernel
theorem dX2_setTank_9 : decode cX2_setTank 9 = .ok (.iadd, 1) := by decide +kernel
theorem dX2_setTank_10 : decode cX2_setTank 10 = .ok (.iload_n 3, 1) := by decide +kernel
theorem dX2_setTank_11 : decode cX2_setTank 11 = .ok (.iastore, 1) := by decide +kernel
theorem dX2_setTank_12 : decode cX2_setTank 12 = .ok (.return_, 1) := by decide +kernel
theorem dX2_li_0 : decode cX2_li 0 = .ok (.aload_n 0, 1) := by decide +kernel
theorem dX2_li_1 : decode cX2_li 1 = .ok (.getfield 13, 3) := by decide +kernel
theorem dX2_li_4 : decode cX2_li 4 = .ok (.bipush 9, 2) := by decide +kernel
theorem dX2_li_6 : decode cX2_li 6 = .ok (.iload_n 1, 1) := by decide +kernel
theorem dX2_li_7 : decode cX2_li 7 = .ok (.imul, 1) := by decide +kernel
theorem dX2_li_8 : decode cX2_li 8 = .ok (.iload_n 2, 1) := by decide +kernel
theorem dX2_li_9 : decode cX2_li 9 = .ok (.iadd, 1) := by decide +kernel
theorem dX2_li_10 : decode cX2_li 10 = .ok (.iaload, 1) := by decide +kernel
theorem dX2_li_11 : decode cX2_li 11 = .ok (.ireturn, 1) := by decide +kernel
theorem dX2_setPipe_0 : decode cX2_setPipe 0 = .ok (.aload_n 0, 1) := by decide +kernel
theorem dX2_setPipe_1 : decode cX2_setPipe 1 = .ok (.getfield 13, 3) := by decide +kernel
theorem dX2_setPipe_4 : decode cX2_setPipe 4 = .ok (.bipush 9, 2) := by decide +kernel
theorem dX2_setPipe_6 : decode cX2_setPipe 6 = .ok (.iload_n 1, 1) := by decide +kernel
theorem dX2_setPipe_7 : decode cX2_setPipe 7 = .ok (.imul, 1) := by decide +kernel
theorem dX2_setPipe_8 : decode cX2_setPipe 8 = .ok (.iload_n 2, 1) := by decide +kernel
theorem dX2_setPipe_9 : decode cX2_setPipe 9 = .ok (.iadd, 1) := by decide +kernel
theorem dX2_setPipe_10 : decode cX2_setPipe 10 = .ok (.iload_n 3, 1) := by decide +kernel
theorem dX2_setPipe_11 : decode cX2_setPipe 11 = .ok (.iastore, 1) := by decide +kernel
theorem dX2_setPipe_12 : decode cX2_setPipe 12 = .ok (.return_, 1) := by decide +kernel
set_option maxRecDepth 20000 in
theorem ggX2_build_X2_isIn : GoodIn wsX2_build wsX2_isIn := goodIn_r _ [12] (by decide +kernel) (by decide +kernel)
set_option maxRecDepth 20000 in
theorem gX2_build_X2_isIn : GoodIn wsX2_build (va_wsS RX2 26 yX2_isIn wsX2_isIn) := goodIn_app (goodIn_of _ (by decide +kernel)) ggX2_build_X2_isIn
set_option maxRecDepth 20000 in
theorem ggX2_build_X2_fail : GoodIn wsX2_build wsX2_fail := goodIn_r _ [16, 1, 17, 18, 19, 20, 21, 22] (by decide +kernel) (by decide +kernel)
set_option maxRecDepth 20000 in
theorem gX2_build_X2_fail : GoodIn wsX2_build (wsV RX2 33 RX2 yX2_fail wsX2_fail) := goodIn_app (goodIn_of _ (by decide +kernel)) ggX2_build_X2_fail
theorem dX2_build_0 : decode cX2_build 0 = .ok (.aload_n 0, 1) := by decide +kernel
theorem dX2_build_1 : decode cX2_build 1 = .ok (.iconst 0, 1) := by decide +kernel
theorem dX2_build_2 : decode cX2_build 2 = .ok (.putfield 19, 3) := by decide +kernel
theorem dX2_build_5 : decode cX2_build 5 = .ok (.iload_n 1, 1) := by decide +kernel
theorem dX2_build_6 : decode cX2_build 6 = .ok (.iconst 0, 1) := by decide +kernel
theorem dX2_build_7 : decode cX2_build 7 = .ok (.bipush 99, 2) := by decide +kernel
theorem dX2_build_9 : decode cX2_build 9 = .ok (.invokestatic 26, 3) := by decide +kernel
theorem dX2_build_12 : decode cX2_build 12 = .ok (.ifCond .eq 23, 3) := by decide +kernel
theorem dX2_build_15 : decode cX2_build 15 = .ok (.iload_n 2, 1) := by decide +kernel
theorem dX2_build_16 : decode cX2_build 16 = .ok (.iconst 0, 1) := by decide +kernel
theorem dX2_build_17 : decode cX2_build 17 = .ok (.bipush 20, 2) := by decide +kernel
theorem dX2_build_19 : decode cX2_build 19 = .ok (.invokestatic 26, 3) := by decide +kernel
theorem dX2_build_22 : decode cX2_build 22 = .ok (.ifCond .eq 13, 3) := by decide +kernel
theorem dX2_build_25 : decode cX2_build 25 = .ok (.iload_n 3, 1) := by decide +kernel
theorem dX2_build_26 : decode cX2_build 26 = .ok (.iconst 0, 1) := by decide +kernel
theorem dX2_build_27 : decode cX2_build 27 = .ok (.bipush 20, 2) := by decide +kernel
theorem dX2_build_29 : decode cX2_build 29 = .ok (.invokestatic 26, 3) := by decide +kernel
theorem dX2_build_32 : decode cX2_build 32 = .ok (.ifCond .ne 9, 3) := by decide +kernel
theorem dX2_build_35 : decode cX2_build 35 = .ok (.aload_n 0, 1) := by decide +kernel
theorem dX2_build_36 : decode cX2_build 36 = .ok (.iconst 1, 1) := by decide +kernel
theorem dX2_build_37 : decode cX2_build 37 = .ok (.invokevirtual 33, 3) := by decide +kernel
theorem dX2_build_40 : decode cX2_build 40 = .ok (.ireturn, 1) := by decide +kernel
theorem dX2_build_41 : decode cX2_build 41 = .ok (.aload_n 0, 1) := by decide +kernel
theorem dX2_build_42 : decode cX2_build 42 = .ok (.getfield 23, 3) := by decide +kernel
theorem dX2_build_45 : decode cX2_build 45 = .ok (.bipush 10, 2) := by decide +kernel
theorem dX2_build_47 : decode cX2_build 47 = .ok (.if_icmp .ne 9, 3) := by decide +kernel
theorem dX2_build_50 : decode cX2_build 50 = .ok (.aload_n 0, 1) := by decide +kernel
theorem dX2_build_51 : decode cX2_build 51 = .ok (.iconst 2, 1) := by decide +kernel
theorem dX2_build_52 : decode cX2_build 52 = .ok (.invokevirtual 33, 3) := by decide +kernel
theorem dX2_build_55 : decode cX2_build 55 = .ok (.ireturn, 1) := by decide +kernel
theorem dX2_build_56 : decode cX2_build 56 = .ok (.bipush 8, 2) := by decide +kernel
theorem dX2_build_58 : decode cX2_build 58 = .ok (.newarray .int, 2) := by decide +kernel
theorem dX2_build_60 : decode cX2_build 60 = .ok (.dup, 1) := by decide +kernel
theorem dX2_build_61 : decode cX2_build 61 = .ok (.iconst 0, 1) := by decide +kernel
theorem dX2_build_62 : decode cX2_build 62 = .ok (.iload_n 1, 1) := by decide +kernel
theorem dX2_build_63 : decode cX2_build 63 = .ok (.iastore, 1) := by decide +kernel
theorem dX2_build_64 : decode cX2_build 64 = .ok (.dup, 1) := by decide +kernel
theorem dX2_build_65 : decode cX2_build 65 = .ok (.iconst 1, 1) := by decide +kernel
theorem dX2_build_66 : decode cX2_build 66 = .ok (.iload_n 2, 1) := by decide +kernel
theorem dX2_build_67 : decode cX2_build 67 = .ok (.iastore, 1) := by decide +kernel
theorem dX2_build_68 : decode cX2_build 68 = .ok (.dup, 1) := by decide +kernel
theorem dX2_build_69 : decode cX2_build 69 = .ok (.iconst 2, 1) := by decide +kernel
theorem dX2_build_70 : decode cX2_build 70 = .ok (.iload_n 3, 1) := by decide +kernel
theorem dX2_build_71 : decode cX2_build 71 = .ok (.iastore, 1) := by decide +kernel
theorem dX2_build_72 : decode cX2_build 72 = .ok (.dup, 1) := by decide +kernel
theorem dX2_build_73 : decode cX2_build 73 = .ok (.iconst 3, 1) := by decide +kernel
theorem dX2_build_74 : decode cX2_build 74 = .ok (.iconst 0, 1) := by decide +kernel
theorem dX2_build_75 : decode cX2_build 75 = .ok (.iastore, 1) := by decide +kernel
theorem dX2_build_76 : decode cX2_build 76 = .ok (.dup, 1) := by decide +kernel
theorem dX2_build_77 : decode cX2_build 77 = .ok (.iconst 4, 1) := by decide +kernel
theorem dX2_build_78 : decode cX2_build 78 = .ok (.iconst 0, 1) := by decide +kernel
theorem dX2_build_79 : decode cX2_build 79 = .ok (.iastore, 1) := by decide +kernel
theorem dX2_build_80 : decode cX2_build 80 = .ok (.dup, 1) := by decide +kernel
theorem dX2_build_81 : decode cX2_build 81 = .ok (.iconst 5, 1) := by decide +kernel
theorem dX2_build_82 : decode cX2_build 82 = .ok (.iconst 0, 1) := by decide +kernel
theorem dX2_build_83 : decode cX2_build 83 = .ok (.iastore, 1) := by decide +kernel
theorem dX2_build_84 : decode cX2_build 84 = .ok (.dup, 1) := by decide +kernel
theorem dX2_build_85 : decode cX2_build 85 = .ok (.bipush 6, 2) := by decide +kernel
theorem dX2_build_87 : decode cX2_build 87 = .ok (.iconst 0, 1) := by decide +kernel
theorem dX2_build_88 : decode cX2_build 88 = .ok (.iastore, 1) := by decide +kernel
theorem dX2_build_89 : decode cX2_build 89 = .ok (.dup, 1) := by decide +kernel
theorem dX2_build_90 : decode cX2_build 90 = .ok (.bipush 7, 2) := by decide +kernel
theorem dX2_build_92 : decode cX2_build 92 = .ok (.iconst 0, 1) := by decide +kernel
theorem dX2_build_93 : decode cX2_build 93 = .ok (.iastore, 1) := by decide +kernel
theorem dX2_build_94 : decode cX2_build 94 = .ok (.astore 4, 2) := by decide +kernel
theorem dX2_build_96 : decode cX2_build 96 = .ok (.aload 4, 2) := by decide +kernel
theorem dX2_build_98 : decode cX2_build 98 = .ok (.iconst 0, 1) := by decide +kernel
theorem dX2_build_99 : decode cX2_build 99 = .ok (.aload_n 0, 1) := by decide +kernel
theorem dX2_build_100 : decode cX2_build 100 = .ok (.getfield 9, 3) := by decide +kernel
theorem dX2_build_103 : decode cX2_build 103 = .ok (.bipush 8, 2) := by decide +kernel
theorem dX2_build_105 : decode cX2_build 105 = .ok (.aload_n 0, 1) := by decide +kernel
theorem dX2_build_106 : decode cX2_build 106 = .ok (.getfield 23, 3) := by decide +kernel
theorem dX2_build_109 : decode cX2_build 109 = .ok (.imul, 1) := by decide +kernel
theorem dX2_build_110 : decode cX2_build 110 = .ok (.bipush 8, 2) := by decide +kernel
theorem dX2_build_112 : decode cX2_build 112 = .ok (.invokestatic 37, 3) := by decide +kernel
theorem dX2_build_115 : decode cX2_build 115 = .ok (.aload_n 0, 1) := by decide +kernel
theorem dX2_build_116 : decode cX2_build 116 = .ok (.dup, 1) := by decide +kernel
theorem dX2_build_117 : decode cX2_build 117 = .ok (.getfield 23, 3) := by decide +kernel
theorem dX2_build_120 : decode cX2_build 120 = .ok (.iconst 1, 1) := by decide +kernel
theorem dX2_build_121 : decode cX2_build 121 = .ok (.iadd, 1) := by decide +kernel
theorem dX2_build_122 : decode cX2_build 122 = .ok (.putfield 23, 3) := by decide +kernel
theorem dX2_build_125 : decode cX2_build 125 = .ok (.aload_n 0, 1) := by decide +kernel
theorem dX2_build_126 : decode cX2_build 126 = .ok (.getfield 23, 3) := by decide +kernel
theorem dX2_build_129 : decode cX2_build 129 = .ok (.iconst 1, 1) := by decide +kernel
theorem dX2_build_130 : decode cX2_build 130 = .ok (.isub, 1) := by decide +kernel
theorem dX2_build_131 : decode cX2_build 131 = .ok (.ireturn, 1) := by decide +kernel
set_option maxRecDepth 20000 in
theorem ggX2_lay_X2_isTank : GoodIn wsX2_lay wsX2_isTank := goodIn_r _ [13, 14, 15, 16, 12, 17, 22, 23, 24, 25, 26, 27] (by decide +kernel) (by decide +kernel)
set_option maxRecDepth 20000 in
theorem gX2_lay_X2_isTank : GoodIn wsX2_lay (wsV RX2 43 RX2 yX2_isTank wsX2_isTank) := goodIn_app (goodIn_of _ (by decide +kernel)) ggX2_lay_X2_isTank
set_option maxRecDepth 20000 in
theorem ggX2_lay_X2_fail : GoodIn wsX2_lay wsX2_fail := goodIn_r _ [21, 1, 22, 23, 24, 25, 26, 27] (by decide +kernel) (by decide +kernel)
set_option maxRecDepth 20000 in
theorem gX2_lay_X2_fail : GoodIn wsX2_lay (wsV RX2 33 RX2 yX2_fail wsX2_fail) := goodIn_app (goodIn_of _ (by decide +kernel)) ggX2_lay_X2_fail
set_option maxRecDepth 20000 in
theorem ggX2_lay_X2_isIn : GoodIn wsX2_lay wsX2_isIn := goodIn_r _ [17] (by decide +kernel) (by decide +kernel)
set_option maxRecDepth 20000 in
theorem gX2_lay_X2_isIn : GoodIn wsX2_lay (va_wsS RX2 26 yX2_isIn wsX2_isIn) := goodIn_app (goodIn_of _ (by decide +kernel)) ggX2_lay_X2_isIn
theorem dX2_lay_0 : decode cX2_lay 0 = .ok (.aload_n 0, 1) := by decide +kernel
theorem dX2_lay_1 : decode cX2_lay 1 = .ok (.iconst 0, 1) := by decide +kernel
theorem dX2_lay_2 : decode cX2_lay 2 = .ok (.putfield 19, 3) := by decide +kernel
theorem dX2_lay_5 : decode cX2_lay 5 = .ok (.aload_n 0, 1) := by decide +kernel
theorem dX2_lay_6 : decode cX2_lay 6 = .ok (.iload_n 1, 1) := by decide +kernel
theorem dX2_lay_7 : decode cX2_lay 7 = .ok (.invokevirtual 43, 3) := by decide +kernel
theorem dX2_lay_10 : decode cX2_lay 10 = .ok (.ifCond .eq 11, 3) := by decide +kernel
theorem dX2_lay_13 : decode cX2_lay 13 = .ok (.aload_n 0, 1) := by decide +kernel
theorem dX2_lay_14 : decode cX2_lay 14 = .ok (.iload_n 2, 1) := by decide +kernel
theorem dX2_lay_15 : decode cX2_lay 15 = .ok (.invokevirtual 43, 3) := by decide +kernel
theorem dX2_lay_18 : decode cX2_lay 18 = .ok (.ifCond .ne 9, 3) := by decide +kernel
theorem dX2_lay_21 : decode cX2_lay 21 = .ok (.aload_n 0, 1) := by decide +kernel
theorem dX2_lay_22 : decode cX2_lay 22 = .ok (.iconst 1, 1) := by decide +kernel
theorem dX2_lay_23 : decode cX2_lay 23 = .ok (.invokevirtual 33, 3) := by decide +kernel
theorem dX2_lay_26 : decode cX2_lay 26 = .ok (.ireturn, 1) := by decide +kernel
theorem dX2_lay_27 : decode cX2_lay 27 = .ok (.iload_n 1, 1) := by decide +kernel
theorem dX2_lay_28 : decode cX2_lay 28 = .ok (.iload_n 2, 1) := by decide +kernel
theorem dX2_lay_29 : decode cX2_lay 29 = .ok (.if_icmp .eq 24, 3) := by decide +kernel
theorem dX2_lay_32 : decode cX2_lay 32 = .ok (.iload_n 3, 1) := by decide +kernel
theorem dX2_lay_33 : decode cX2_lay 33 = .ok (.iconst 1, 1) := by decide +kernel
theorem dX2_lay_34 : decode cX2_lay 34 = .ok (.bipush 20, 2) := by decide +kernel
theorem dX2_lay_36 : decode cX2_lay 36 = .ok (.invokestatic 26, 3) := by decide +kernel
theorem dX2_lay_39 : decode cX2_lay 39 = .ok (.ifCond .eq 14, 3) := by decide +kernel
theorem dX2_lay_42 : decode cX2_lay 42 = .ok (.iload 4, 2) := by decide +kernel
theorem dX2_lay_44 : decode cX2_lay 44 = .ok (.iconst 0, 1) := by decide +kernel
theorem dX2_lay_45 : decode cX2_lay 45 = .ok (.bipush 60, 2) := by decide +kernel
theorem dX2_lay_47 : decode cX2_lay 47 = .ok (.invokestatic 26, 3) := by decide +kernel
theorem dX2_lay_50 : decode cX2_lay 50 = .ok (.ifCond .ne 9, 3) := by decide +kernel
theorem dX2_lay_53 : decode cX2_lay 53 = .ok (.aload_n 0, 1) := by decide +kernel
theorem dX2_lay_54 : decode cX2_lay 54 = .ok (.iconst 2, 1) := by decide +kernel
theorem dX2_lay_55 : decode cX2_lay 55 = .ok (.invokevirtual 33, 3) := by decide +kernel
theorem dX2_lay_58 : decode cX2_lay 58 = .ok (.ireturn, 1) := by decide +kernel
theorem dX2_lay_59 : decode cX2_lay 59 = .ok (.aload_n 0, 1) := by decide +kernel
theorem dX2_lay_60 : decode cX2_lay 60 = .ok (.getfield 30, 3) := by decide +kernel
theorem dX2_lay_63 : decode cX2_lay 63 = .ok (.bipush 14, 2) := by decide +kernel
theorem dX2_lay_65 : decode cX2_lay 65 = .ok (.if_icmp .ne 9, 3) := by decide +kernel
theorem dX2_lay_68 : decode cX2_lay 68 = .ok (.aload_n 0, 1) := by decide +kernel
theorem dX2_lay_69 : decode cX2_lay 69 = .ok (.iconst 3, 1) := by decide +kernel
theorem dX2_lay_70 : decode cX2_lay 70 = .ok (.invokevirtual 33, 3) := by decide +kernel
theorem dX2_lay_73 : decode cX2_lay 73 = .ok (.ireturn, 1) := by decide +kernel
theorem dX2_lay_74 : decode cX2_lay 74 = .ok (.bipush 9, 2) := by decide +kernel
theorem dX2_lay_76 : decode cX2_lay 76 = .ok (.newarray .int, 2) := by decide +kernel
theorem dX2_lay_78 : decode cX2_lay 78 = .ok (.dup, 1) := by decide +kernel
theorem dX2_lay_79 : decode cX2_lay 79 = .ok (.iconst 0, 1) := by decide +kernel
theorem dX2_lay_80 : decode cX2_lay 80 = .ok (.iload_n 1, 1) := by decide +kernel
theorem dX2_lay_81 : decode cX2_lay 81 = .ok (.iastore, 1) := by decide +kernel
theorem dX2_lay_82 : decode cX2_lay 82 = .ok (.dup, 1) := by decide +kernel
theorem dX2_lay_83 : decode cX2_lay 83 = .ok (.iconst 1, 1) := by decide +kernel
theorem dX2_lay_84 : decode cX2_lay 84 = .ok (.iload_n 2, 1) := by decide +kernel
theorem dX2_lay_85 : decode cX2_lay 85 = .ok (.iastore, 1) := by decide +kernel
theorem dX2_lay_86 : decode cX2_lay 86 = .ok (.dup, 1) := by decide +kernel
theorem dX2_lay_87 : decode cX2_lay 87 = .ok (.iconst 2, 1) := by decide +kernel
theorem dX2_lay_88 : decode cX2_lay 88 = .ok (.iload_n 3, 1) := by decide +kernel
theorem dX2_lay_89 : decode cX2_lay 89 = .ok (.iastore, 1) := by decide +kernel
theorem dX2_lay_90 : decode cX2_lay 90 = .ok (.dup, 1) := by decide +kernel
theorem dX2_lay_91 : decode cX2_lay 91 = .ok (.iconst 3, 1) := by decide +kernel
theorem dX2_lay_92 : decode cX2_lay 92 = .ok (.iload 4, 2) := by decide +kernel
theorem dX2_lay_94 : decode cX2_lay 94 = .ok (.iastore, 1) := by decide +kernel
theorem dX2_lay_95 : decode cX2_lay 95 = .ok (.dup, 1) := by decide +kernel
theorem dX2_lay_96 : decode cX2_lay 96 = .ok (.iconst 4, 1) := by decide +kernel
theorem dX2_lay_97 : decode cX2_lay 97 = .ok (.iconst 0, 1) := by decide +kernel
theorem dX2_lay_98 : decode cX2_lay 98 = .ok (.iastore, 1) := by decide +kernel
theorem dX2_lay_99 : decode cX2_lay 99 = .ok (.dup, 1) := by decide +kernel
theorem dX2_lay_100 : decode cX2_lay 100 = .ok (.iconst 5, 1) := by decide +kernel
theorem dX2_lay_101 : decode cX2_lay 101 = .ok (.iconst 0, 1) := by decide +kernel
theorem dX2_lay_102 : decode cX2_lay 102 = .ok (.iastore, 1) := by decide +kernel
theorem dX2_lay_103 : decode cX2_lay 103 = .ok (.dup, 1) := by decide +kernel
theorem dX2_lay_104 : decode cX2_lay 104 = .ok (.bipush 6, 2) := by decide +kernel
theorem dX2_lay_106 : decode cX2_lay 106 = .ok (.iconst 0, 1) := by decide +kernel
theorem dX2_lay_107 : decode cX2_lay 107 = .ok (.iastore, 1) := by decide +kernel
theorem dX2_lay_108 : decode cX2_lay 108 = .ok (.dup, 1) := by decide +kernel
theorem dX2_lay_109 : decode cX2_lay 109 = .ok (.bipush 7, 2) := by decide +kernel
theorem dX2_lay_111 : decode cX2_lay 111 = .ok (.iconst 0, 1) := by decide +kernel
theorem dX2_lay_112 : decode cX2_lay 112 = .ok (.iastore, 1) := by decide +kernel
theorem dX2_lay_113 : decode cX2_lay 113 = .ok (.dup, 1) := by decide +kernel
theorem dX2_lay_114 : decode cX2_lay 114 = .ok (.bipush 8, 2) := by decide +kernel
theorem dX2_lay_116 : decode cX2_lay 116 = .ok (.iconst 0, 1) := by decide +kernel
theorem dX2_lay_117 : decode cX2_lay 117 = .ok (.iastore, 1) := by decide +kernel
theorem dX2_lay_118 : decode cX2_lay 118 = .ok (.astore 5, 2) := by decide +kernel
theorem dX2_lay_120 : decode cX2_lay 120 = .ok (.aload 5, 2) := by decide +kernel
theorem dX2_lay_122 : decode cX2_lay 122 = .ok (.iconst 0, 1) := by decide +kernel
theorem dX2_lay_123 : decode cX2_lay 123 = .ok (.aload_n 0, 1) := by decide +kernel
theorem dX2_lay_124 : decode cX2_lay 124 = .ok (.getfield 13, 3) := by decide +kernel
theorem dX2_lay_127 : decode cX2_lay 127 = .ok (.bipush 9, 2) := by decide +kernel
theorem dX2_lay_129 : decode cX2_lay 129 = .ok (.aload_n 0, 1) := by decide +kernel
theorem dX2_lay_130 : decode cX2_lay 130 = .ok (.getfield 30, 3) := by decide +kernel
theorem dX2_lay_133 : decode cX2_lay 133 = .ok (.imul, 1) := by decide +kernel
theorem dX2_lay_134 : decode cX2_lay 134 = .ok (.bipush 9, 2) := by decide +kernel
theorem dX2_lay_136 : decode cX2_lay 136 = .ok (.invokestatic 37, 3) := by decide +kernel
theorem dX2_lay_139 : decode cX2_lay 139 = .ok (.aload_n 0, 1) := by decide +kernel
theorem dX2_lay_140 : decode cX2_lay 140 = .ok (.dup, 1) := by decide +kernel
theorem dX2_lay_141 : decode cX2_lay 141 = .ok (.getfield 30, 3) := by decide +kernel
theorem dX2_lay_144 : decode cX2_lay 144 = .ok (.iconst 1, 1) := by decide +kernel
theorem dX2_lay_145 : decode cX2_lay 145 = .ok (.iadd, 1) := by decide +kernel
theorem dX2_lay_146 : decode cX2_lay 146 = .ok (.putfield 30, 3) := by decide +kernel
theorem dX2_lay_149 : decode cX2_lay 149 = .ok (.aload_n 0, 1) := by decide +kernel
theorem dX2_lay_150 : decode cX2_lay 150 = .ok (.getfield 30, 3) := by decide +kernel
theorem dX2_lay_153 : decode cX2_lay 153 = .ok (.iconst 1, 1) := by decide +kernel
theorem dX2_lay_154 : decode cX2_lay 154 = .ok (.isub, 1) := by decide +kernel
theorem dX2_lay_155 : decode cX2_lay 155 = .ok (.ireturn, 1) := by decide +kernel
set_option maxRecDepth 20000 in
theorem ggX2_set_X2_isTank : GoodIn wsX2_set wsX2_isTank := goodIn_r _ [6, 7, 8, 9, 5, 10, 24, 25, 26, 27, 28, 29] (by decide +kernel) (by decide +kernel)
set_option maxRecDepth 20000 in
theorem gX2_set_X2_isTank : GoodIn wsX2_set (wsV RX2 43 RX2 yX2_isTank wsX2_isTank) := goodIn_app (goodIn_of _ (by decide +kernel)) ggX2_set_X2_isTank
set_option maxRecDepth 20000 in
theorem ggX2_set_X2_fail : GoodIn wsX2_set wsX2_fail := goodIn_r _ [14, 1, 24, 25, 26, 27, 28, 29] (by decide +kernel) (by decide +kernel)
set_option maxRecDepth 20000 in
theorem gX2_set_X2_fail : GoodIn wsX2_set (wsV RX2 33 RX2 yX2_fail wsX2_fail) := goodIn_app (goodIn_of _ (by decide +kernel)) ggX2_set_X2_fail
set_option maxRecDepth 20000 in
theorem ggX2_set_X2_isIn : GoodIn wsX2_set wsX2_isIn := goodIn_r _ [10] (by decide +kernel) (by decide +kernel)
set_option maxRecDepth 20000 in
theorem gX2_set_X2_isIn : GoodIn wsX2_set (va_wsS RX2 26 yX2_isIn wsX2_isIn) := goodIn_app (goodIn_of _ (by decide +kernel)) ggX2_set_X2_isIn
set_option maxRecDepth 20000 in
theorem ggX2_set_X2_la : GoodIn wsX2_set wsX2_la := goodIn_r _ [18, 19, 24, 25, 26, 27, 28, 29] (by decide +kernel) (by decide +kernel)
set_option maxRecDepth 20000 in
theorem gX2_set_X2_la : GoodIn wsX2_set (wsV RX2 47 RX2 yX2_la wsX2_la) := goodIn_app (goodIn_of _ (by decide +kernel)) ggX2_set_X2_la
set_option maxRecDepth 20000 in
theorem ggX2_set_X2_setTank : GoodIn wsX2_set wsX2_setTank := goodIn_r _ [23, 19, 24, 25, 26, 27, 28, 29] (by decide +kernel) (by decide +kernel)
set_option maxRecDepth 20000 in
theorem gX2_set_X2_setTank : GoodIn wsX2_set (wsV RX2 51 RX2 yX2_setTank wsX2_setTank) := goodIn_app (goodIn_of _ (by decide +kernel)) ggX2_set_X2_setTank
theorem dX2_set_0 : decode cX2_set 0 = .ok (.aload_n 0, 1) := by decide +kernel
theorem dX2_set_1 : decode cX2_set 1 = .ok (.iconst 0, 1) := by decide +kernel
theorem dX2_set_2 : decode cX2_set 2 = .ok (.putfield 19, 3) := by decide +kernel
theorem dX2_set_5 : decode cX2_set 5 = .ok (.aload_n 0, 1) := by decide +kernel
theorem dX2_set_6 : decode cX2_set 6 = .ok (.iload_n 1, 1) := by decide +kernel
theorem dX2_set_7 : decode cX2_set 7 = .ok (.invokevirtual 43, 3) := by decide +kernel
theorem dX2_set_10 : decode cX2_set 10 = .ok (.ifCond .ne 9, 3) := by decide +kernel
theorem dX2_set_13 : decode cX2_set 13 = .ok (.aload_n 0, 1) := by decide +kernel
theorem dX2_set_14 : decode cX2_set 14 = .ok (.iconst 1, 1) := by decide +kernel
theorem dX2_set_15 : decode cX2_set 15 = .ok (.invokevirtual 33, 3) := by decide +kernel
theorem dX2_set_18 : decode cX2_set 18 = .ok (.ireturn, 1) := by decide +kernel
theorem dX2_set_19 : decode cX2_set 19 = .ok (.iload_n 2, 1) := by decide +kernel
theorem dX2_set_20 : decode cX2_set 20 = .ok (.iconst 0, 1) := by decide +kernel
theorem dX2_set_21 : decode cX2_set 21 = .ok (.bipush 20, 2) := by decide +kernel
theorem dX2_set_23 : decode cX2_set 23 = .ok (.invokestatic 26, 3) := by decide +kernel
theorem dX2_set_26 : decode cX2_set 26 = .ok (.ifCond .eq 13, 3) := by decide +kernel
theorem dX2_set_29 : decode cX2_set 29 = .ok (.iload_n 3, 1) := by decide +kernel
theorem dX2_set_30 : decode cX2_set 30 = .ok (.iconst 0, 1) := by decide +kernel
theorem dX2_set_31 : decode cX2_set 31 = .ok (.bipush 20, 2) := by decide +kernel
theorem dX2_set_33 : decode cX2_set 33 = .ok (.invokestatic 26, 3) := by decide +kernel
theorem dX2_set_36 : decode cX2_set 36 = .ok (.ifCond .ne 9, 3) := by decide +kernel
theorem dX2_set_39 : decode cX2_set 39 = .ok (.aload_n 0, 1) := by decide +kernel
theorem dX2_set_40 : decode cX2_set 40 = .ok (.iconst 2, 1) := by decide +kernel
theorem dX2_set_41 : decode cX2_set 41 = .ok (.invokevirtual 33, 3) := by decide +kernel
theorem dX2_set_44 : decode cX2_set 44 = .ok (.ireturn, 1) := by decide +kernel
theorem dX2_set_45 : decode cX2_set 45 = .ok (.bipush 100, 2) := by decide +kernel
theorem dX2_set_47 : decode cX2_set 47 = .ok (.aload_n 0, 1) := by decide +kernel
theorem dX2_set_48 : decode cX2_set 48 = .ok (.iload_n 1, 1) := by decide +kernel
theorem dX2_set_49 : decode cX2_set 49 = .ok (.iconst 1, 1) := by decide +kernel
theorem dX2_set_50 : decode cX2_set 50 = .ok (.invokevirtual 47, 3) := by decide +kernel
theorem dX2_set_53 : decode cX2_set 53 = .ok (.imul, 1) := by decide +kernel
theorem dX2_set_54 : decode cX2_set 54 = .ok (.aload_n 0, 1) := by decide +kernel
theorem dX2_set_55 : decode cX2_set 55 = .ok (.iload_n 1, 1) := by decide +kernel
theorem dX2_set_56 : decode cX2_set 56 = .ok (.iconst 2, 1) := by decide +kernel
theorem dX2_set_57 : decode cX2_set 57 = .ok (.invokevirtual 47, 3) := by decide +kernel
theorem dX2_set_60 : decode cX2_set 60 = .ok (.iadd, 1) := by decide +kernel
theorem dX2_set_61 : decode cX2_set 61 = .ok (.istore 4, 2) := by decide +kernel
theorem dX2_set_63 : decode cX2_set 63 = .ok (.aload_n 0, 1) := by decide +kernel
theorem dX2_set_64 : decode cX2_set 64 = .ok (.iload_n 1, 1) := by decide +kernel
theorem dX2_set_65 : decode cX2_set 65 = .ok (.iconst 1, 1) := by decide +kernel
theorem dX2_set_66 : decode cX2_set 66 = .ok (.iload_n 2, 1) := by decide +kernel
theorem dX2_set_67 : decode cX2_set 67 = .ok (.invokevirtual 51, 3) := by decide +kernel
theorem dX2_set_70 : decode cX2_set 70 = .ok (.aload_n 0, 1) := by decide +kernel
theorem dX2_set_71 : decode cX2_set 71 = .ok (.iload_n 1, 1) := by decide +kernel
theorem dX2_set_72 : decode cX2_set 72 = .ok (.iconst 2, 1) := by decide +kernel
theorem dX2_set_73 : decode cX2_set 73 = .ok (.iload_n 3, 1) := by decide +kernel
theorem dX2_set_74 : decode cX2_set 74 = .ok (.invokevirtual 51, 3) := by decide +kernel
theorem dX2_set_77 : decode cX2_set 77 = .ok (.iload 4, 2) := by decide +kernel
theorem dX2_set_79 : decode cX2_set 79 = .ok (.ireturn, 1) := by decide +kernel
set_option maxRecDepth 20000 in
theorem ggX2_flush_X2_isTank : GoodIn wsX2_flush wsX2_isTank := goodIn_r _ [6, 7, 8, 9, 5, 10, 24, 25, 26, 27, 28, 29] (by decide +kernel) (by decide +kernel)
set_option maxRecDepth 20000 in
theorem gX2_flush_X2_isTank : GoodIn wsX2_flush (wsV RX2 43 RX2 yX2_isTank wsX2_isTank) := goodIn_app (goodIn_of _ (by decide +kernel)) ggX2_flush_X2_isTank
set_option maxRecDepth 20000 in
theorem ggX2_flush_X2_fail : GoodIn wsX2_flush wsX2_fail := goodIn_r _ [14, 1, 24, 25, 26, 27, 28, 29] (by decide +kernel) (by decide +kernel)
set_option maxRecDepth 20000 in
theorem gX2_flush_X2_fail : GoodIn wsX2_flush (wsV RX2 33 RX2 yX2_fail wsX2_fail) := goodIn_app (goodIn_of _ (by decide +kernel)) ggX2_flush_X2_fail
set_option maxRecDepth 20000 in
theorem ggX2_flush_X2_la : GoodIn wsX2_flush wsX2_la := goodIn_r _ [18, 19, 24, 25, 26, 27, 28, 29] (by decide +kernel) (by decide +kernel)
set_option maxRecDepth 20000 in
theorem gX2_flush_X2_la : GoodIn wsX2_flush (wsV RX2 47 RX2 yX2_la wsX2_la) := goodIn_app (goodIn_of _ (by decide +kernel)) ggX2_flush_X2_la
set_option maxRecDepth 20000 in
theorem ggX2_flush_X2_setTank : GoodIn wsX2_flush wsX2_setTank := goodIn_r _ [23, 19, 24, 25, 26, 27, 28, 29] (by decide +kernel) (by decide +kernel)
set_option maxRecDepth 20000 in
theorem gX2_flush_X2_setTank : GoodIn wsX2_flush (wsV RX2 51 RX2 yX2_setTank wsX2_setTank) := goodIn_app (goodIn_of _ (by decide +kernel)) ggX2_flush_X2_setTank
theorem dX2_flush_0 : decode cX2_flush 0 = .ok (.aload_n 0, 1) := by decide +kernel
theorem dX2_flush_1 : decode cX2_flush 1 = .ok (.iconst 0, 1) := by decide +kernel
theorem dX2_flush_2 : decode cX2_flush 2 = .ok (.putfield 19, 3) := by decide +kernel
theorem dX2_flush_5 : decode cX2_flush 5 = .ok (.aload_n 0, 1) := by decide +kernel
theorem dX2_flush_6 : decode cX2_flush 6 = .ok (.iload_n 1, 1) := by decide +kernel
theorem dX2_flush_7 : decode cX2_flush 7 = .ok (.invokevirtual 43, 3) := by decide +kernel
theorem dX2_flush_10 : decode cX2_flush 10 = .ok (.ifCond .ne 9, 3) := by decide +kernel
theorem dX2_flush_13 : decode cX2_flush 13 = .ok (.aload_n 0, 1) := by decide +kernel
theorem dX2_flush_14 : decode cX2_flush 14 = .ok (.iconst 1, 1) := by decide +kernel
theorem dX2_flush_15 : decode cX2_flush 15 = .ok (.invokevirtual 33, 3) := by decide +kernel
theorem dX2_flush_18 : decode cX2_flush 18 = .ok (.ireturn, 1) := by decide +kernel
theorem dX2_flush_19 : decode cX2_flush 19 = .ok (.aload_n 0, 1) := by decide +kernel
theorem dX2_flush_20 : decode cX2_flush 20 = .ok (.iload_n 1, 1) := by decide +kernel
theorem dX2_flush_21 : decode cX2_flush 21 = .ok (.iconst 4, 1) := by decide +kernel
theorem dX2_flush_22 : decode cX2_flush 22 = .ok (.invokevirtual 47, 3) := by decide +kernel
theorem dX2_flush_25 : decode cX2_flush 25 = .ok (.istore_n 2, 1) := by decide +kernel
theorem dX2_flush_26 : decode cX2_flush 26 = .ok (.aload_n 0, 1) := by decide +kernel
theorem dX2_flush_27 : decode cX2_flush 27 = .ok (.iload_n 1, 1) := by decide +kernel
theorem dX2_flush_28 : decode cX2_flush 28 = .ok (.iconst 4, 1) := by decide +kernel
theorem dX2_flush_29 : decode cX2_flush 29 = .ok (.iconst 0, 1) := by decide +kernel
theorem dX2_flush_30 : decode cX2_flush 30 = .ok (.invokevirtual 51, 3) := by decide +kernel
theorem dX2_flush_33 : decode cX2_flush 33 = .ok (.aload_n 0, 1) := by decide +kernel
theorem dX2_flush_34 : decode cX2_flush 34 = .ok (.iload_n 1, 1) := by decide +kernel
theorem dX2_flush_35 : decode cX2_flush 35 = .ok (.iconst 3, 1) := by decide +kernel
theorem dX2_flush_36 : decode cX2_flush 36 = .ok (.aload_n 0, 1) := by decide +kernel
theorem dX2_flush_37 : decode cX2_flush 37 = .ok (.iload_n 1, 1) := by decide +kernel
theorem dX2_flush_38 : decode cX2_flush 38 = .ok (.iconst 3, 1) := by decide +kernel
theorem dX2_flush_39 : decode cX2_flush 39 = .ok (.invokevirtual 47, 3) := by decide +kernel
theorem dX2_flush_42 : decode cX2_flush 42 = .ok (.iconst 2, 1) := by decide +kernel
theorem dX2_flush_43 : decode cX2_flush 43 = .ok (.idiv, 1) := by decide +kernel
theorem dX2_flush_44 : decode cX2_flush 44 = .ok (.invokevirtual 51, 3) := by decide +kernel
theorem dX2_flush_47 : decode cX2_flush 47 = .ok (.iload_n 2, 1) := by decide +kernel
theorem dX2_flush_48 : decode cX2_flush 48 = .ok (.ireturn, 1) := by decide +kernel
set_option maxRecDepth 20000 in
theorem ggX2_scrape_X2_isPipe : GoodIn wsX2_scrape wsX2_isPipe := goodIn_r _ [6, 7, 8, 9, 5, 10, 24, 25, 26, 27, 28, 29] (by decide +kernel) (by decide +kernel)
set_option maxRecDepth 20000 in
theorem gX2_scrape_X2_isPipe : GoodIn wsX2_scrape (wsV RX2 55 RX2 yX2_isPipe wsX2_isPipe) := goodIn_app (goodIn_of _ (by decide +kernel)) ggX2_scrape_X2_isPipe
set_option maxRecDepth 20000 in
theorem ggX2_scrape_X2_fail : GoodIn wsX2_scrape wsX2_fail := goodIn_r _ [14, 1, 24, 25, 26, 27, 28, 29] (by decide +kernel) (by decide +kernel)
set_option maxRecDepth 20000 in
theorem gX2_scrape_X2_fail : GoodIn wsX2_scrape (wsV RX2 33 RX2 yX2_fail wsX2_fail) := goodIn_app (goodIn_of _ (by decide +kernel)) ggX2_scrape_X2_fail
set_option maxRecDepth 20000 in
theorem ggX2_scrape_X2_li : GoodIn wsX2_scrape wsX2_li := goodIn_r _ [18, 19, 24, 25, 26, 27, 28, 29] (by decide +kernel) (by decide +kernel)
set_option maxRecDepth 20000 in
theorem gX2_scrape_X2_li : GoodIn wsX2_scrape (wsV RX2 58 RX2 yX2_li wsX2_li) := goodIn_app (goodIn_of _ (by decide +kernel)) ggX2_scrape_X2_li
set_option maxRecDepth 20000 in
theorem ggX2_scrape_X2_setPipe : GoodIn wsX2_scrape wsX2_setPipe := goodIn_r _ [23, 19, 24, 25, 26, 27, 28, 29] (by decide +kernel) (by decide +kernel)
set_option maxRecDepth 20000 in
theorem gX2_scrape_X2_setPipe : GoodIn wsX2_scrape (wsV RX2 61 RX2 yX2_setPipe wsX2_setPipe) := goodIn_app (goodIn_of _ (by decide +kernel)) ggX2_scrape_X2_setPipe
theorem dX2_scrape_0 : decode cX2_scrape 0 = .ok (.aload_n 0, 1) := by decide +kernel
theorem dX2_scrape_1 : decode cX2_scrape 1 = .ok (.iconst 0, 1) := by decide +kernel
theorem dX2_scrape_2 : decode cX2_scrape 2 = .ok (.putfield 19, 3) := by decide +kernel
theorem dX2_scrape_5 : decode cX2_scrape 5 = .ok (.aload_n 0, 1) := by decide +kernel
theorem dX2_scrape_6 : decode cX2_scrape 6 = .ok (.iload_n 1, 1) := by decide +kernel
theorem dX2_scrape_7 : decode cX2_scrape 7 = .ok (.invokevirtual 55, 3) := by decide +kernel
theorem dX2_scrape_10 : decode cX2_scrape 10 = .ok (.ifCond .ne 9, 3) := by decide +kernel
theorem dX2_scrape_13 : decode cX2_scrape 13 = .ok (.aload_n 0, 1) := by decide +kernel
theorem dX2_scrape_14 : decode cX2_scrape 14 = .ok (.iconst 1, 1) := by decide +kernel
theorem dX2_scrape_15 : decode cX2_scrape 15 = .ok (.invokevirtual 33, 3) := by decide +kernel
theorem dX2_scrape_18 : decode cX2_scrape 18 = .ok (.ireturn, 1) := by decide +kernel
theorem dX2_scrape_19 : decode cX2_scrape 19 = .ok (.aload_n 0, 1) := by decide +kernel
theorem dX2_scrape_20 : decode cX2_scrape 20 = .ok (.iload_n 1, 1) := by decide +kernel
theorem dX2_scrape_21 : decode cX2_scrape 21 = .ok (.iconst 4, 1) := by decide +kernel
theorem dX2_scrape_22 : decode cX2_scrape 22 = .ok (.invokevirtual 58, 3) := by decide +kernel
theorem dX2_scrape_25 : decode cX2_scrape 25 = .ok (.istore_n 2, 1) := by decide +kernel
theorem dX2_scrape_26 : decode cX2_scrape 26 = .ok (.aload_n 0, 1) := by decide +kernel
theorem dX2_scrape_27 : decode cX2_scrape 27 = .ok (.iload_n 1, 1) := by decide +kernel
theorem dX2_scrape_28 : decode cX2_scrape 28 = .ok (.iconst 4, 1) := by decide +kernel
theorem dX2_scrape_29 : decode cX2_scrape 29 = .ok (.iconst 0, 1) := by decide +kernel
theorem dX2_scrape_30 : decode cX2_scrape 30 = .ok (.invokevirtual 61, 3) := by decide +kernel
theorem dX2_scrape_33 : decode cX2_scrape 33 = .ok (.iload_n 2, 1) := by decide +kernel
theorem dX2_scrape_34 : decode cX2_scrape 34 = .ok (.ireturn, 1) := by decide +kernel
set_option maxRecDepth 20000 in
theorem ggX2_steal_X2_isPipe : GoodIn wsX2_steal wsX2_isPipe := goodIn_r _ [6, 7, 8, 9, 5, 10, 24, 25, 26, 27, 28, 29] (by decide +kernel) (by decide +kernel)
set_option maxRecDepth 20000 in
theorem gX2_steal_X2_isPipe : GoodIn wsX2_steal (wsV RX2 55 RX2 yX2_isPipe wsX2_isPipe) := goodIn_app (goodIn_of _ (by decide +kernel)) ggX2_steal_X2_isPipe
set_option maxRecDepth 20000 in
theorem ggX2_steal_X2_fail : GoodIn wsX2_steal wsX2_fail := goodIn_r _ [14, 1, 24, 25, 26, 27, 28, 29] (by decide +kernel) (by decide +kernel)
set_option maxRecDepth 20000 in
theorem gX2_steal_X2_fail : GoodIn wsX2_steal (wsV RX2 33 RX2 yX2_fail wsX2_fail) := goodIn_app (goodIn_of _ (by decide +kernel)) ggX2_steal_X2_fail
set_option maxRecDepth 20000 in
theorem ggX2_steal_X2_isIn : GoodIn wsX2_steal wsX2_isIn := goodIn_r _ [10] (by decide +kernel) (by decide +kernel)
set_option maxRecDepth 20000 in
theorem gX2_steal_X2_isIn : GoodIn wsX2_steal (va_wsS RX2 26 yX2_isIn wsX2_isIn) := goodIn_app (goodIn_of _ (by decide +kernel)) ggX2_steal_X2_isIn
set_option maxRecDepth 20000 in
theorem ggX2_steal_X2_li : GoodIn wsX2_steal wsX2_li := goodIn_r _ [18, 19, 24, 25, 26, 27, 28, 29] (by decide +kernel) (by decide +kernel)
set_option maxRecDepth 20000 in
theorem gX2_steal_X2_li : GoodIn wsX2_steal (wsV RX2 58 RX2 yX2_li wsX2_li) := goodIn_app (goodIn_of _ (by decide +kernel)) ggX2_steal_X2_li
set_option maxRecDepth 20000 in
theorem ggX2_steal_X2_setPipe : GoodIn wsX2_steal wsX2_setPipe := goodIn_r _ [23, 19, 24, 25, 26, 27, 28, 29] (by decide +kernel) (by decide +kernel)
set_option maxRecDepth 20000 in
theorem gX2_steal_X2_setPipe : GoodIn wsX2_steal (wsV RX2 61 RX2 yX2_setPipe wsX2_setPipe) := goodIn_app (goodIn_of _ (by decide +kernel)) ggX2_steal_X2_setPipe
theorem dX2_steal_0 : decode cX2_steal 0 = .ok (.aload_n 0, 1) := by decide +kernel
theorem dX2_steal_1 : decode cX2_steal 1 = .ok (.iconst 0, 1) := by decide +kernel
theorem dX2_steal_2 : decode cX2_steal 2 = .ok (.putfield 19, 3) := by decide +kernel
theorem dX2_steal_5 : decode cX2_steal 5 = .ok (.aload_n 0, 1) := by decide +kernel
theorem dX2_steal_6 : decode cX2_steal 6 = .ok (.iload_n 1, 1) := by decide +kernel
theorem dX2_steal_7 : decode cX2_steal 7 = .ok (.invokevirtual 55, 3) := by decide +kernel
theorem dX2_steal_10 : decode cX2_steal 10 = .ok (.ifCond .ne 9, 3) := by decide +kernel
theorem dX2_steal_13 : decode cX2_steal 13 = .ok (.aload_n 0, 1) := by decide +kernel
theorem dX2_steal_14 : decode cX2_steal 14 = .ok (.iconst 1, 1) := by decide +kernel
theorem dX2_steal_15 : decode cX2_steal 15 = .ok (.invokevirtual 33, 3) := by decide +kernel
theorem dX2_steal_18 : decode cX2_steal 18 = .ok (.ireturn, 1) := by decide +kernel
theorem dX2_steal_19 : decode cX2_steal 19 = .ok (.iload_n 2, 1) := by decide +kernel
theorem dX2_steal_20 : decode cX2_steal 20 = .ok (.iconst 0, 1) := by decide +kernel
theorem dX2_steal_21 : decode cX2_steal 21 = .ok (.bipush 9, 2) := by decide +kernel
theorem dX2_steal_23 : decode cX2_steal 23 = .ok (.invokestatic 26, 3) := by decide +kernel
theorem dX2_steal_26 : decode cX2_steal 26 = .ok (.ifCond .ne 9, 3) := by decide +kernel
theorem dX2_steal_29 : decode cX2_steal 29 = .ok (.aload_n 0, 1) := by decide +kernel
theorem dX2_steal_30 : decode cX2_steal 30 = .ok (.iconst 2, 1) := by decide +kernel
theorem dX2_steal_31 : decode cX2_steal 31 = .ok (.invokevirtual 33, 3) := by decide +kernel
theorem dX2_steal_34 : decode cX2_steal 34 = .ok (.ireturn, 1) := by decide +kernel
theorem dX2_steal_35 : decode cX2_steal 35 = .ok (.aload_n 0, 1) := by decide +kernel
theorem dX2_steal_36 : decode cX2_steal 36 = .ok (.iload_n 1, 1) := by decide +kernel
theorem dX2_steal_37 : decode cX2_steal 37 = .ok (.bipush 8, 2) := by decide +kernel
theorem dX2_steal_39 : decode cX2_steal 39 = .ok (.invokevirtual 58, 3) := by decide +kernel
theorem dX2_steal_42 : decode cX2_steal 42 = .ok (.istore_n 3, 1) := by decide +kernel
theorem dX2_steal_43 : decode cX2_steal 43 = .ok (.aload_n 0, 1) := by decide +kernel
theorem dX2_steal_44 : decode cX2_steal 44 = .ok (.iload_n 1, 1) := by decide +kernel
theorem dX2_steal_45 : decode cX2_steal 45 = .ok (.bipush 8, 2) := by decide +kernel
theorem dX2_steal_47 : decode cX2_steal 47 = .ok (.iload_n 2, 1) := by decide +kernel
theorem dX2_steal_48 : decode cX2_steal 48 = .ok (.invokevirtual 61, 3) := by decide +kernel
theorem dX2_steal_51 : decode cX2_steal 51 = .ok (.iload_n 3, 1) := by decide +kernel
theorem dX2_steal_52 : decode cX2_steal 52 = .ok (.ireturn, 1) := by decide +kernel
set_option maxRecDepth 20000 in
theorem ggX2_head_X2_la : GoodIn wsX2_head wsX2_la := goodIn_r _ [5, 6, 7, 8, 9, 10, 11, 12] (by decide +kernel) (by decide +kernel)
set_option maxRecDepth 20000 in
theorem gX2_head_X2_la : GoodIn wsX2_head (wsV RX2 47 RX2 yX2_la wsX2_la) := goodIn_app (goodIn_of _ (by decide +kernel)) ggX2_head_X2_la
theorem dX2_head_0 : decode cX2_head 0 = .ok (.bipush 10, 2) := by decide +kernel
theorem dX2_head_2 : decode cX2_head 2 = .ok (.aload_n 0, 1) := by decide +kernel
theorem dX2_head_3 : decode cX2_head 3 = .ok (.iload_n 1, 1) := by decide +kernel
theorem dX2_head_4 : decode cX2_head 4 = .ok (.iconst 0, 1) := by decide +kernel
theorem dX2_head_5 : decode cX2_head 5 = .ok (.invokevirtual 47, 3) := by decide +kernel
theorem dX2_head_8 : decode cX2_head 8 = .ok (.imul, 1) := by decide +kernel
theorem dX2_head_9 : decode cX2_head 9 = .ok (.aload_n 0, 1) := by decide +kernel
theorem dX2_head_10 : decode cX2_head 10 = .ok (.iload_n 1, 1) := by decide +kernel
theorem dX2_head_11 : decode cX2_head 11 = .ok (.iconst 3, 1) := by decide +kernel
theorem dX2_head_12 : decode cX2_head 12 = .ok (.invokevirtual 47, 3) := by decide +kernel
theorem dX2_head_15 : decode cX2_head 15 = .ok (.iadd, 1) := by decide +kernel
theorem dX2_head_16 : decode cX2_head 16 = .ok (.ireturn, 1) := by decide +kernel
set_option maxRecDepth 20000 in
theorem ggX2_flows_X2_li : GoodIn wsX2_flows wsX2_li := goodIn_r _ [12, 13, 23, 24, 25, 26, 27, 28] (by decide +kernel) (by decide +kernel)
set_option maxRecDepth 20000 in
theorem gX2_flows_X2_li : GoodIn wsX2_flows (wsV RX2 58 RX2 yX2_li wsX2_li) := goodIn_app (goodIn_of _ (by decide +kernel)) ggX2_flows_X2_li
set_option maxRecDepth 20000 in
theorem ggX2_flows_X2_head : GoodIn wsX2_flows wsX2_head := goodIn_r _ [17, 18, 19, 20, 11, 21, 22, 23, 24, 25, 26, 27, 28] (by decide +kernel) (by decide +kernel)
set_option maxRecDepth 20000 in
theorem gX2_flows_X2_head : GoodIn wsX2_flows (wsV RX2 64 RX2 yX2_head wsX2_head) := goodIn_app (goodIn_of _ (by decide +kernel)) ggX2_flows_X2_head
set_option maxRecDepth 20000 in
theorem ggX2_flows_X2_la : GoodIn wsX2_flows wsX2_la := goodIn_r _ [21, 22, 23, 24, 25, 26, 27, 28] (by decide +kernel) (by decide +kernel)
set_option maxRecDepth 20000 in
theorem gX2_flows_X2_la : GoodIn wsX2_flows (wsV RX2 47 RX2 yX2_la wsX2_la) := goodIn_app (goodIn_of _ (by decide +kernel)) ggX2_flows_X2_la
theorem dX2_flows_0 : decode cX2_flows 0 = .ok (.aload_n 0, 1) := by decide +kernel
theorem dX2_flows_1 : decode cX2_flows 1 = .ok (.aload_n 0, 1) := by decide +kernel
theorem dX2_flows_2 : decode cX2_flows 2 = .ok (.iload_n 1, 1) := by decide +kernel
theorem dX2_flows_3 : decode cX2_flows 3 = .ok (.iconst 0, 1) := by decide +kernel
theorem dX2_flows_4 : decode cX2_flows 4 = .ok (.invokevirtual 58, 3) := by decide +kernel
theorem dX2_flows_7 : decode cX2_flows 7 = .ok (.invokevirtual 64, 3) := by decide +kernel
theorem dX2_flows_10 : decode cX2_flows 10 = .ok (.aload_n 0, 1) := by decide +kernel
theorem dX2_flows_11 : decode cX2_flows 11 = .ok (.aload_n 0, 1) := by decide +kernel
theorem dX2_flows_12 : decode cX2_flows 12 = .ok (.iload_n 1, 1) := by decide +kernel
theorem dX2_flows_13 : decode cX2_flows 13 = .ok (.iconst 1, 1) := by decide +kernel
theorem dX2_flows_14 : decode cX2_flows 14 = .ok (.invokevirtual 58, 3) := by decide +kernel
theorem dX2_flows_17 : decode cX2_flows 17 = .ok (.invokevirtual 64, 3) := by decide +kernel
theorem dX2_flows_20 : decode cX2_flows 20 = .ok (.isub, 1) := by decide +kernel
theorem dX2_flows_21 : decode cX2_flows 21 = .ok (.istore_n 2, 1) := by decide +kernel
theorem dX2_flows_22 : decode cX2_flows 22 = .ok (.iload_n 2, 1) := by decide +kernel
theorem dX2_flows_23 : decode cX2_flows 23 = .ok (.ifCond .le 13, 3) := by decide +kernel
theorem dX2_flows_26 : decode cX2_flows 26 = .ok (.iload_n 2, 1) := by decide +kernel
theorem dX2_flows_27 : decode cX2_flows 27 = .ok (.aload_n 0, 1) := by decide +kernel
theorem dX2_flows_28 : decode cX2_flows 28 = .ok (.iload_n 1, 1) := by decide +kernel
theorem dX2_flows_29 : decode cX2_flows 29 = .ok (.iconst 3, 1) := by decide +kernel
theorem dX2_flows_30 : decode cX2_flows 30 = .ok (.invokevirtual 58, 3) := by decide +kernel
theorem dX2_flows_33 : decode cX2_flows 33 = .ok (.if_icmp .ge 5, 3) := by decide +kernel
theorem dX2_flows_36 : decode cX2_flows 36 = .ok (.iconst 0, 1) := by decide +kernel
theorem dX2_flows_37 : decode cX2_flows 37 = .ok (.ireturn, 1) := by decide +kernel
theorem dX2_flows_38 : decode cX2_flows 38 = .ok (.aload_n 0, 1) := by decide +kernel
theorem dX2_flows_39 : decode cX2_flows 39 = .ok (.aload_n 0, 1) := by decide +kernel
theorem dX2_flows_40 : decode cX2_flows 40 = .ok (.iload_n 1, 1) := by decide +kernel
theorem dX2_flows_41 : decode cX2_flows 41 = .ok (.iconst 0, 1) := by decide +kernel
theorem dX2_flows_42 : decode cX2_flows 42 = .ok (.invokevirtual 58, 3) := by decide +kernel
theorem dX2_flows_45 : decode cX2_flows 45 = .ok (.iconst 3, 1) := by decide +kernel
theorem dX2_flows_46 : decode cX2_flows 46 = .ok (.invokevirtual 47, 3) := by decide +kernel
theorem dX2_flows_49 : decode cX2_flows 49 = .ok (.iload_n 2, 1) := by decide +kernel
theorem dX2_flows_50 : decode cX2_flows 50 = .ok (.bipush 10, 2) := by decide +kernel
theorem dX2_flows_52 : decode cX2_flows 52 = .ok (.idiv, 1) := by decide +kernel
theorem dX2_flows_53 : decode cX2_flows 53 = .ok (.iconst 1, 1) := by decide +kernel
theorem dX2_flows_54 : decode cX2_flows 54 = .ok (.iadd, 1) := by decide +kernel
theorem dX2_flows_55 : decode cX2_flows 55 = .ok (.iconst 0, 1) := by decide +kernel
theorem dX2_flows_56 : decode cX2_flows 56 = .ok (.aload_n 0, 1) := by decide +kernel
theorem dX2_flows_57 : decode cX2_flows 57 = .ok (.iload_n 1, 1) := by decide +kernel
theorem dX2_flows_58 : decode cX2_flows 58 = .ok (.iconst 2, 1) := by decide +kernel
theorem dX2_flows_59 : decode cX2_flows 59 = .ok (.invokevirtual 58, 3) := by decide +kernel
theorem dX2_flows_62 : decode cX2_flows 62 = .ok (.aload_n 0, 1) := by decide +kernel
theorem dX2_flows_63 : decode cX2_flows 63 = .ok (.iload_n 1, 1) := by decide +kernel
theorem dX2_flows_64 : decode cX2_flows 64 = .ok (.iconst 4, 1) := by decide +kernel
theorem dX2_flows_65 : decode cX2_flows 65 = .ok (.invokevirtual 58, 3) := by decide +kernel
theorem dX2_flows_68 : decode cX2_flows 68 = .ok (.isub, 1) := by decide +kernel
theorem dX2_flows_69 : decode cX2_flows 69 = .ok (.invokestatic 67, 3) := by decide +kernel
theorem dX2_flows_72 : decode cX2_flows 72 = .ok (.invokestatic 72, 3) := by decide +kernel
theorem dX2_flows_75 : decode cX2_flows 75 = .ok (.invokestatic 72, 3) := by decide +kernel
theorem dX2_flows_78 : decode cX2_flows 78 = .ok (.ireturn, 1) := by decide +kernel
set_option maxRecDepth 20000 in
theorem ggX2_tank_X2_isTank : GoodIn wsX2_tank wsX2_isTank := goodIn_r _ [6, 7, 8, 9, 5, 10, 20, 21, 22, 23, 24, 25] (by decide +kernel) (by decide +kernel)
set_option maxRecDepth 20000 in
theorem gX2_tank_X2_isTank : GoodIn wsX2_tank (wsV RX2 43 RX2 yX2_isTank wsX2_isTank) := goodIn_app (goodIn_of _ (by decide +kernel)) ggX2_tank_X2_isTank
set_option maxRecDepth 20000 in
theorem ggX2_tank_X2_isIn : GoodIn wsX2_tank wsX2_isIn := goodIn_r _ [10] (by decide +kernel) (by decide +kernel)
set_option maxRecDepth 20000 in
theorem gX2_tank_X2_isIn : GoodIn wsX2_tank (va_wsS RX2 26 yX2_isIn wsX2_isIn) := goodIn_app (goodIn_of _ (by decide +kernel)) ggX2_tank_X2_isIn
set_option maxRecDepth 20000 in
theorem ggX2_tank_X2_la : GoodIn wsX2_tank wsX2_la := goodIn_r _ [14, 15, 20, 21, 22, 23, 24, 25] (by decide +kernel) (by decide +kernel)
set_option maxRecDepth 20000 in
theorem gX2_tank_X2_la : GoodIn wsX2_tank (wsV RX2 47 RX2 yX2_la wsX2_la) := goodIn_app (goodIn_of _ (by decide +kernel)) ggX2_tank_X2_la
set_option maxRecDepth 20000 in
theorem ggX2_tank_X2_fail : GoodIn wsX2_tank wsX2_fail := goodIn_r _ [19, 1, 20, 21, 22, 23, 24, 25] (by decide +kernel) (by decide +kernel)
set_option maxRecDepth 20000 in
theorem gX2_tank_X2_fail : GoodIn wsX2_tank (wsV RX2 33 RX2 yX2_fail wsX2_fail) := goodIn_app (goodIn_of _ (by decide +kernel)) ggX2_tank_X2_fail
theorem dX2_tank_0 : decode cX2_tank 0 = .ok (.aload_n 0, 1) := by decide +kernel
theorem dX2_tank_1 : decode cX2_tank 1 = .ok (.iconst 0, 1) := by decide +kernel
theorem dX2_tank_2 : decode cX2_tank 2 = .ok (.putfield 19, 3) := by decide +kernel
theorem dX2_tank_5 : decode cX2_tank 5 = .ok (.aload_n 0, 1) := by decide +kernel
theorem dX2_tank_6 : decode cX2_tank 6 = .ok (.iload_n 1, 1) := by decide +kernel
theorem dX2_tank_7 : decode cX2_tank 7 = .ok (.invokevirtual 43, 3) := by decide +kernel
theorem dX2_tank_10 : decode cX2_tank 10 = .ok (.ifCond .eq 22, 3) := by decide +kernel
theorem dX2_tank_13 : decode cX2_tank 13 = .ok (.iload_n 2, 1) := by decide +kernel
theorem dX2_tank_14 : decode cX2_tank 14 = .ok (.iconst 0, 1) := by decide +kernel
theorem dX2_tank_15 : decode cX2_tank 15 = .ok (.bipush 7, 2) := by decide +kernel
theorem dX2_tank_17 : decode cX2_tank 17 = .ok (.invokestatic 26, 3) := by decide +kernel
theorem dX2_tank_20 : decode cX2_tank 20 = .ok (.ifCond .eq 12, 3) := by decide +kernel
theorem dX2_tank_23 : decode cX2_tank 23 = .ok (.aload_n 0, 1) := by decide +kernel
theorem dX2_tank_24 : decode cX2_tank 24 = .ok (.iload_n 1, 1) := by decide +kernel
theorem dX2_tank_25 : decode cX2_tank 25 = .ok (.iload_n 2, 1) := by decide +kernel
theorem dX2_tank_26 : decode cX2_tank 26 = .ok (.invokevirtual 47, 3) := by decide +kernel
theorem dX2_tank_29 : decode cX2_tank 29 = .ok (.goto 8, 3) := by decide +kernel
theorem dX2_tank_32 : decode cX2_tank 32 = .ok (.aload_n 0, 1) := by decide +kernel
theorem dX2_tank_33 : decode cX2_tank 33 = .ok (.iconst 1, 1) := by decide +kernel
theorem dX2_tank_34 : decode cX2_tank 34 = .ok (.invokevirtual 33, 3) := by decide +kernel
theorem dX2_tank_37 : decode cX2_tank 37 = .ok (.ireturn, 1) := by decide +kernel
set_option maxRecDepth 20000 in
theorem ggX2_pipeTold_X2_flows : GoodIn wsX2_pipeTold wsX2_flows := goodIn_r _ [5, 6, 7, 8, 9, 10, 11, 12, 13, 14, 15, 4, 16, 17, 18, 19, 20, 21, 22, 23, 24, 25, 26, 27, 28, 29, 30, 31, 32] (by decide +kernel) (by decide +kernel)
set_option maxRecDepth 20000 in
theorem gX2_pipeTold_X2_flows : GoodIn wsX2_pipeTold (wsV RX2 75 RX2 yX2_flows wsX2_flows) := goodIn_app (goodIn_of _ (by decide +kernel)) ggX2_pipeTold_X2_flows
set_option maxRecDepth 20000 in
theorem ggX2_pipeTold_X2_li : GoodIn wsX2_pipeTold wsX2_li := goodIn_r _ [16, 17, 27, 28, 29, 30, 31, 32] (by decide +kernel) (by decide +kernel)
set_option maxRecDepth 20000 in
theorem gX2_pipeTold_X2_li : GoodIn wsX2_pipeTold (wsV RX2 58 RX2 yX2_li wsX2_li) := goodIn_app (goodIn_of _ (by decide +kernel)) ggX2_pipeTold_X2_li
theorem dX2_pipeTold_0 : decode cX2_pipeTold 0 = .ok (.iload_n 2, 1) := by decide +kernel
theorem dX2_pipeTold_1 : decode cX2_pipeTold 1 = .ok (.bipush 8, 2) := by decide +kernel
theorem dX2_pipeTold_3 : decode cX2_pipeTold 3 = .ok (.if_icmp .ne 11, 3) := by decide +kernel
theorem dX2_pipeTold_6 : decode cX2_pipeTold 6 = .ok (.aload_n 0, 1) := by decide +kernel
theorem dX2_pipeTold_7 : decode cX2_pipeTold 7 = .ok (.iload_n 1, 1) := by decide +kernel
theorem dX2_pipeTold_8 : decode cX2_pipeTold 8 = .ok (.invokevirtual 75, 3) := by decide +kernel
theorem dX2_pipeTold_11 : decode cX2_pipeTold 11 = .ok (.goto 9, 3) := by decide +kernel
theorem dX2_pipeTold_14 : decode cX2_pipeTold 14 = .ok (.aload_n 0, 1) := by decide +kernel
theorem dX2_pipeTold_15 : decode cX2_pipeTold 15 = .ok (.iload_n 1, 1) := by decide +kernel
theorem dX2_pipeTold_16 : decode cX2_pipeTold 16 = .ok (.iload_n 2, 1) := by decide +kernel
theorem dX2_pipeTold_17 : decode cX2_pipeTold 17 = .ok (.invokevirtual 58, 3) := by decide +kernel
theorem dX2_pipeTold_20 : decode cX2_pipeTold 20 = .ok (.ireturn, 1) := by decide +kernel
set_option maxRecDepth 20000 in
theorem ggX2_pipe_X2_isPipe : GoodIn wsX2_pipe wsX2_isPipe := goodIn_r _ [6, 7, 8, 9, 5, 10, 44, 45, 46, 47, 48, 49] (by decide +kernel) (by decide +kernel)
set_option maxRecDepth 20000 in
theorem gX2_pipe_X2_isPipe : GoodIn wsX2_pipe (wsV RX2 55 RX2 yX2_isPipe wsX2_isPipe) := goodIn_app (goodIn_of _ (by decide +kernel)) ggX2_pipe_X2_isPipe
set_option maxRecDepth 20000 in
theorem ggX2_pipe_X2_isIn : GoodIn wsX2_pipe wsX2_isIn := goodIn_r _ [10] (by decide +kernel) (by decide +kernel)
set_option maxRecDepth 20000 in
theorem gX2_pipe_X2_isIn : GoodIn wsX2_pipe (va_wsS RX2 26 yX2_isIn wsX2_isIn) := goodIn_app (goodIn_of _ (by decide +kernel)) ggX2_pipe_X2_isIn
set_option maxRecDepth 20000 in
theorem ggX2_pipe_X2_pipeTold : GoodIn wsX2_pipe wsX2_pipeTold := goodIn_r _ [14, 15, 16, 17, 5, 18, 19, 20, 21, 22, 23, 24, 25, 26, 27, 28, 29, 30, 31, 32, 33, 34, 35, 36, 37, 38, 39, 44, 45, 46, 47, 48, 49] (by decide +kernel) (by decide +kernel)
set_option maxRecDepth 20000 in
theorem gX2_pipe_X2_pipeTold : GoodIn wsX2_pipe (wsV RX2 78 RX2 yX2_pipeTold wsX2_pipeTold) := goodIn_app (goodIn_of _ (by decide +kernel)) ggX2_pipe_X2_pipeTold
set_option maxRecDepth 20000 in
theorem ggX2_pipe_X2_fail : GoodIn wsX2_pipe wsX2_fail := goodIn_r _ [43, 1, 44, 45, 46, 47, 48, 49] (by decide +kernel) (by decide +kernel)
set_option maxRecDepth 20000 in
theorem gX2_pipe_X2_fail : GoodIn wsX2_pipe (wsV RX2 33 RX2 yX2_fail wsX2_fail) := goodIn_app (goodIn_of _ (by decide +kernel)) ggX2_pipe_X2_fail
theorem dX2_pipe_0 : decode cX2_pipe 0 = .ok (.aload_n 0, 1) := by decide +kernel
theorem dX2_pipe_1 : decode cX2_pipe 1 = .ok (.iconst 0, 1) := by decide +kernel
theorem dX2_pipe_2 : decode cX2_pipe 2 = .ok (.putfield 19, 3) := by decide +kernel
theorem dX2_pipe_5 : decode cX2_pipe 5 = .ok (.aload_n 0, 1) := by decide +kernel
theorem dX2_pipe_6 : decode cX2_pipe 6 = .ok (.iload_n 1, 1) := by decide +kernel
theorem dX2_pipe_7 : decode cX2_pipe 7 = .ok (.invokevirtual 55, 3) := by decide +kernel
theorem dX2_pipe_10 : decode cX2_pipe 10 = .ok (.ifCond .eq 22, 3) := by decide +kernel
theorem dX2_pipe_13 : decode cX2_pipe 13 = .ok (.iload_n 2, 1) := by decide +kernel
theorem dX2_pipe_14 : decode cX2_pipe 14 = .ok (.iconst 0, 1) := by decide +kernel
theorem dX2_pipe_15 : decode cX2_pipe 15 = .ok (.bipush 8, 2) := by decide +kernel
theorem dX2_pipe_17 : decode cX2_pipe 17 = .ok (.invokestatic 26, 3) := by decide +kernel
theorem dX2_pipe_20 : decode cX2_pipe 20 = .ok (.ifCond .eq 12, 3) := by decide +kernel
theorem dX2_pipe_23 : decode cX2_pipe 23 = .ok (.aload_n 0, 1) := by decide +kernel
theorem dX2_pipe_24 : decode cX2_pipe 24 = .ok (.iload_n 1, 1) := by decide +kernel
theorem dX2_pipe_25 : decode cX2_pipe 25 = .ok (.iload_n 2, 1) := by decide +kernel
theorem dX2_pipe_26 : decode cX2_pipe 26 = .ok (.invokevirtual 78, 3) := by decide +kernel
theorem dX2_pipe_29 : decode cX2_pipe 29 = .ok (.goto 8, 3) := by decide +kernel
theorem dX2_pipe_32 : decode cX2_pipe 32 = .ok (.aload_n 0, 1) := by decide +kernel
theorem dX2_pipe_33 : decode cX2_pipe 33 = .ok (.iconst 1, 1) := by decide +kernel
theorem dX2_pipe_34 : decode cX2_pipe 34 = .ok (.invokevirtual 33, 3) := by decide +kernel
theorem dX2_pipe_37 : decode cX2_pipe 37 = .ok (.ireturn, 1) := by decide +kernel
set_option maxRecDepth 20000 in
theorem ggX2_all_X2_la : GoodIn wsX2_all wsX2_la := goodIn_r _ [6, 7, 8, 9, 10, 11, 12, 13] (by decide +kernel) (by decide +kernel)
set_option maxRecDepth 20000 in
theorem gX2_all_X2_la : GoodIn wsX2_all (wsV RX2 47 RX2 yX2_la wsX2_la) := goodIn_app (goodIn_of _ (by decide +kernel)) ggX2_all_X2_la
theorem dX2_all_0 : decode cX2_all 0 = .ok (.iconst 0, 1) := by decide +kernel
theorem dX2_all_1 : decode cX2_all 1 = .ok (.istore_n 2, 1) := by decide +kernel
theorem dX2_all_2 : decode cX2_all 2 = .ok (.iconst 0, 1) := by decide +kernel
theorem dX2_all_3 : decode cX2_all 3 = .ok (.istore_n 3, 1) := by decide +kernel
theorem dX2_all_4 : decode cX2_all 4 = .ok (.iload_n 3, 1) := by decide +kernel
theorem dX2_all_5 : decode cX2_all 5 = .ok (.aload_n 0, 1) := by decide +kernel
theorem dX2_all_6 : decode cX2_all 6 = .ok (.getfield 23, 3) := by decide +kernel
theorem dX2_all_9 : decode cX2_all 9 = .ok (.if_icmp .ge 18, 3) := by decide +kernel
theorem dX2_all_12 : decode cX2_all 12 = .ok (.iload_n 2, 1) := by decide +kernel
theorem dX2_all_13 : decode cX2_all 13 = .ok (.aload_n 0, 1) := by decide +kernel
theorem dX2_all_14 : decode cX2_all 14 = .ok (.iload_n 3, 1) := by decide +kernel
theorem dX2_all_15 : decode cX2_all 15 = .ok (.iload_n 1, 1) := by decide +kernel
theorem dX2_all_16 : decode cX2_all 16 = .ok (.invokevirtual 47, 3) := by decide +kernel
theorem dX2_all_19 : decode cX2_all 19 = .ok (.iadd, 1) := by decide +kernel
theorem dX2_all_20 : decode cX2_all 20 = .ok (.istore_n 2, 1) := by decide +kernel
theorem dX2_all_21 : decode cX2_all 21 = .ok (.iinc 3 1, 3) := by decide +kernel
theorem dX2_all_24 : decode cX2_all 24 = .ok (.goto (-20), 3) := by decide +kernel
theorem dX2_all_27 : decode cX2_all 27 = .ok (.iload_n 2, 1) := by decide +kernel
theorem dX2_all_28 : decode cX2_all 28 = .ok (.ireturn, 1) := by decide +kernel
set_option maxRecDepth 20000 in
theorem ggX2_allPipes_X2_li : GoodIn wsX2_allPipes wsX2_li := goodIn_r _ [6, 7, 8, 9, 10, 11, 12, 13] (by decide +kernel) (by decide +kernel)
set_option maxRecDepth 20000 in
theorem gX2_allPipes_X2_li : GoodIn wsX2_allPipes (wsV RX2 58 RX2 yX2_li wsX2_li) := goodIn_app (goodIn_of _ (by decide +kernel)) ggX2_allPipes_X2_li
theorem dX2_allPipes_0 : decode cX2_allPipes 0 = .ok (.iconst 0, 1) := by decide +kernel
theorem dX2_allPipes_1 : decode cX2_allPipes 1 = .ok (.istore_n 2, 1) := by decide +kernel
theorem dX2_allPipes_2 : decode cX2_allPipes 2 = .ok (.iconst 0, 1) := by decide +kernel
theorem dX2_allPipes_3 : decode cX2_allPipes 3 = .ok (.istore_n 3, 1) := by decide +kernel
theorem dX2_allPipes_4 : decode cX2_allPipes 4 = .ok (.iload_n 3, 1) := by decide +kernel
theorem dX2_allPipes_5 : decode cX2_allPipes 5 = .ok (.aload_n 0, 1) := by decide +kernel
theorem dX2_allPipes_6 : decode cX2_allPipes 6 = .ok (.getfield 30, 3) := by decide +kernel
theorem dX2_allPipes_9 : decode cX2_allPipes 9 = .ok (.if_icmp .ge 18, 3) := by decide +kernel
theorem dX2_allPipes_12 : decode cX2_allPipes 12 = .ok (.iload_n 2, 1) := by decide +kernel
theorem dX2_allPipes_13 : decode cX2_allPipes 13 = .ok (.aload_n 0, 1) := by decide +kernel
theorem dX2_allPipes_14 : decode cX2_allPipes 14 = .ok (.iload_n 3, 1) := by decide +kernel
theorem dX2_allPipes_15 : decode cX2_allPipes 15 = .ok (.iload_n 1, 1) := by decide +kernel
theorem dX2_allPipes_16 : decode cX2_allPipes 16 = .ok (.invokevirtual 58, 3) := by decide +kernel
theorem dX2_allPipes_19 : decode cX2_allPipes 19 = .ok (.iadd, 1) := by decide +kernel
theorem dX2_allPipes_20 : decode cX2_allPipes 20 = .ok (.istore_n 2, 1) := by decide +kernel
theorem dX2_allPipes_21 : decode cX2_allPipes 21 = .ok (.iinc 3 1, 3) := by decide +kernel
theorem dX2_allPipes_24 : decode cX2_allPipes 24 = .ok (.goto (-20), 3) := by decide +kernel
theorem dX2_allPipes_27 : decode cX2_allPipes 27 = .ok (.iload_n 2, 1) := by decide +kernel
theorem dX2_allPipes_28 : decode cX2_allPipes 28 = .ok (.ireturn, 1) := by decide +kernel
set_option maxRecDepth 20000 in
theorem ggX2_counted_X2_all : GoodIn wsX2_counted wsX2_all := goodIn_r _ [8, 2, 9, 10, 11, 7, 12, 13, 23, 24, 25, 26, 27, 28] (by decide +kernel) (by decide +kernel)
set_option maxRecDepth 20000 in
theorem gX2_counted_X2_all : GoodIn wsX2_counted (wsV RX2 81 RX2 yX2_all wsX2_all) := goodIn_app (goodIn_of _ (by decide +kernel)) ggX2_counted_X2_all
set_option maxRecDepth 20000 in
theorem ggX2_counted_X2_allPipes : GoodIn wsX2_counted wsX2_allPipes := goodIn_r _ [17, 3, 18, 19, 20, 7, 21, 22, 23, 24, 25, 26, 27, 28] (by decide +kernel) (by decide +kernel)
set_option maxRecDepth 20000 in
theorem gX2_counted_X2_allPipes : GoodIn wsX2_counted (wsV RX2 84 RX2 yX2_allPipes wsX2_allPipes) := goodIn_app (goodIn_of _ (by decide +kernel)) ggX2_counted_X2_allPipes
set_option maxRecDepth 20000 in
theorem ggX2_counted_X2_la : GoodIn wsX2_counted wsX2_la := goodIn_r _ [12, 13, 23, 24, 25, 26, 27, 28] (by decide +kernel) (by decide +kernel)
set_option maxRecDepth 20000 in
theorem gX2_counted_X2_la : GoodIn wsX2_counted (wsV RX2 47 RX2 yX2_la wsX2_la) := goodIn_app (goodIn_of _ (by decide +kernel)) ggX2_counted_X2_la
theorem dX2_counted_0 : decode cX2_counted 0 = .ok (.iconst 0, 1) := by decide +kernel
theorem dX2_counted_1 : decode cX2_counted 1 = .ok (.istore_n 2, 1) := by decide +kernel
theorem dX2_counted_2 : decode cX2_counted 2 = .ok (.iload_n 1, 1) := by decide +kernel
theorem dX2_counted_3 : decode cX2_counted 3 = .ok (.tableswitch 95 0 7 #[45, 52, 57, 62, 68, 74, 81, 88], 45) := by decide +kernel
theorem dX2_counted_48 : decode cX2_counted 48 = .ok (.aload_n 0, 1) := by decide +kernel
theorem dX2_counted_49 : decode cX2_counted 49 = .ok (.getfield 16, 3) := by decide +kernel
theorem dX2_counted_52 : decode cX2_counted 52 = .ok (.iconst 0, 1) := by decide +kernel
theorem dX2_counted_53 : decode cX2_counted 53 = .ok (.iaload, 1) := by decide +kernel
theorem dX2_counted_54 : decode cX2_counted 54 = .ok (.ireturn, 1) := by decide +kernel
theorem dX2_counted_55 : decode cX2_counted 55 = .ok (.aload_n 0, 1) := by decide +kernel
theorem dX2_counted_56 : decode cX2_counted 56 = .ok (.getfield 23, 3) := by decide +kernel
theorem dX2_counted_59 : decode cX2_counted 59 = .ok (.ireturn, 1) := by decide +kernel
theorem dX2_counted_60 : decode cX2_counted 60 = .ok (.aload_n 0, 1) := by decide +kernel
theorem dX2_counted_61 : decode cX2_counted 61 = .ok (.getfield 30, 3) := by decide +kernel
theorem dX2_counted_64 : decode cX2_counted 64 = .ok (.ireturn, 1) := by decide +kernel
theorem dX2_counted_65 : decode cX2_counted 65 = .ok (.aload_n 0, 1) := by decide +kernel
theorem dX2_counted_66 : decode cX2_counted 66 = .ok (.iconst 3, 1) := by decide +kernel
theorem dX2_counted_67 : decode cX2_counted 67 = .ok (.invokevirtual 81, 3) := by decide +kernel
theorem dX2_counted_70 : decode cX2_counted 70 = .ok (.ireturn, 1) := by decide +kernel
theorem dX2_counted_71 : decode cX2_counted 71 = .ok (.aload_n 0, 1) := by decide +kernel
theorem dX2_counted_72 : decode cX2_counted 72 = .ok (.iconst 4, 1) := by decide +kernel
theorem dX2_counted_73 : decode cX2_counted 73 = .ok (.invokevirtual 81, 3) := by decide +kernel
theorem dX2_counted_76 : decode cX2_counted 76 = .ok (.ireturn, 1) := by decide +kernel
theorem dX2_counted_77 : decode cX2_counted 77 = .ok (.aload_n 0, 1) := by decide +kernel
theorem dX2_counted_78 : decode cX2_counted 78 = .ok (.bipush 6, 2) := by decide +kernel
theorem dX2_counted_80 : decode cX2_counted 80 = .ok (.invokevirtual 81, 3) := by decide +kernel
theorem dX2_counted_83 : decode cX2_counted 83 = .ok (.ireturn, 1) := by decide +kernel
theorem dX2_counted_84 : decode cX2_counted 84 = .ok (.aload_n 0, 1) := by decide +kernel
theorem dX2_counted_85 : decode cX2_counted 85 = .ok (.bipush 7, 2) := by decide +kernel
theorem dX2_counted_87 : decode cX2_counted 87 = .ok (.invokevirtual 84, 3) := by decide +kernel
theorem dX2_counted_90 : decode cX2_counted 90 = .ok (.ireturn, 1) := by decide +kernel
theorem dX2_counted_91 : decode cX2_counted 91 = .ok (.aload_n 0, 1) := by decide +kernel
theorem dX2_counted_92 : decode cX2_counted 92 = .ok (.bipush 7, 2) := by decide +kernel
theorem dX2_counted_94 : decode cX2_counted 94 = .ok (.invokevirtual 81, 3) := by decide +kernel
theorem dX2_counted_97 : decode cX2_counted 97 = .ok (.ireturn, 1) := by decide +kernel
theorem dX2_counted_98 : decode cX2_counted 98 = .ok (.iconst 0, 1) := by decide +kernel
theorem dX2_counted_99 : decode cX2_counted 99 = .ok (.istore_n 3, 1) := by decide +kernel
theorem dX2_counted_100 : decode cX2_counted 100 = .ok (.iload_n 3, 1) := by decide +kernel
theorem dX2_counted_101 : decode cX2_counted 101 = .ok (.aload_n 0, 1) := by decide +kernel
theorem dX2_counted_102 : decode cX2_counted 102 = .ok (.getfield 23, 3) := by decide +kernel
theorem dX2_counted_105 : decode cX2_counted 105 = .ok (.if_icmp .ge 32, 3) := by decide +kernel
theorem dX2_counted_108 : decode cX2_counted 108 = .ok (.iload_n 2, 1) := by decide +kernel
theorem dX2_counted_109 : decode cX2_counted 109 = .ok (.aload_n 0, 1) := by decide +kernel
theorem dX2_counted_110 : decode cX2_counted 110 = .ok (.iload_n 3, 1) := by decide +kernel
theorem dX2_counted_111 : decode cX2_counted 111 = .ok (.iconst 5, 1) := by decide +kernel
theorem dX2_counted_112 : decode cX2_counted 112 = .ok (.invokevirtual 47, 3) := by decide +kernel
theorem dX2_counted_115 : decode cX2_counted 115 = .ok (.aload_n 0, 1) := by decide +kernel
theorem dX2_counted_116 : decode cX2_counted 116 = .ok (.iload_n 3, 1) := by decide +kernel
theorem dX2_counted_117 : decode cX2_counted 117 = .ok (.iconst 2, 1) := by decide +kernel
theorem dX2_counted_118 : decode cX2_counted 118 = .ok (.invokevirtual 47, 3) := by decide +kernel
theorem dX2_counted_121 : decode cX2_counted 121 = .ok (.if_icmp .ge 7, 3) := by decide +kernel
theorem dX2_counted_124 : decode cX2_counted 124 = .ok (.iconst 1, 1) := by decide +kernel
theorem dX2_counted_125 : decode cX2_counted 125 = .ok (.goto 4, 3) := by decide +kernel
theorem dX2_counted_128 : decode cX2_counted 128 = .ok (.iconst 0, 1) := by decide +kernel
theorem dX2_counted_129 : decode cX2_counted 129 = .ok (.iadd, 1) := by decide +kernel
theorem dX2_counted_130 : decode cX2_counted 130 = .ok (.istore_n 2, 1) := by decide +kernel
theorem dX2_counted_131 : decode cX2_counted 131 = .ok (.iinc 3 1, 3) := by decide +kernel
theorem dX2_counted_134 : decode cX2_counted 134 = .ok (.goto (-34), 3) := by decide +kernel
theorem dX2_counted_137 : decode cX2_counted 137 = .ok (.iload_n 2, 1) := by decide +kernel
theorem dX2_counted_138 : decode cX2_counted 138 = .ok (.ireturn, 1) := by decide +kernel
set_option maxRecDepth 20000 in
theorem ggX2_count_X2_isIn : GoodIn wsX2_count wsX2_isIn := goodIn_r _ [5] (by decide +kernel) (by decide +kernel)
set_option maxRecDepth 20000 in
theorem gX2_count_X2_isIn : GoodIn wsX2_count (va_wsS RX2 26 yX2_isIn wsX2_isIn) := goodIn_app (goodIn_of _ (by decide +kernel)) ggX2_count_X2_isIn
set_option maxRecDepth 20000 in
theorem ggX2_count_X2_counted : GoodIn wsX2_count wsX2_counted := goodIn_r _ [9, 10, 11, 12, 13, 14, 15, 4, 16, 17, 18, 19, 20, 21, 22, 23, 24, 25, 26, 27, 28, 29, 30, 35, 36, 37, 38, 39, 40] (by decide +kernel) (by decide +kernel)
set_option maxRecDepth 20000 in
theorem gX2_count_X2_counted : GoodIn wsX2_count (wsV RX2 87 RX2 yX2_counted wsX2_counted) := goodIn_app (goodIn_of _ (by decide +kernel)) ggX2_count_X2_counted
set_option maxRecDepth 20000 in
theorem ggX2_count_X2_fail : GoodIn wsX2_count wsX2_fail := goodIn_r _ [34, 1, 35, 36, 37, 38, 39, 40] (by decide +kernel) (by decide +kernel)
set_option maxRecDepth 20000 in
theorem gX2_count_X2_fail : GoodIn wsX2_count (wsV RX2 33 RX2 yX2_fail wsX2_fail) := goodIn_app (goodIn_of _ (by decide +kernel)) ggX2_count_X2_fail
theorem dX2_count_0 : decode cX2_count 0 = .ok (.aload_n 0, 1) := by decide +kernel
theorem dX2_count_1 : decode cX2_count 1 = .ok (.iconst 0, 1) := by decide +kernel
theorem dX2_count_2 : decode cX2_count 2 = .ok (.putfield 19, 3) := by decide +kernel
theorem dX2_count_5 : decode cX2_count 5 = .ok (.iload_n 1, 1) := by decide +kernel
theorem dX2_count_6 : decode cX2_count 6 = .ok (.iconst 0, 1) := by decide +kernel
theorem dX2_count_7 : decode cX2_count 7 = .ok (.bipush 8, 2) := by decide +kernel
theorem dX2_count_9 : decode cX2_count 9 = .ok (.invokestatic 26, 3) := by decide +kernel
theorem dX2_count_12 : decode cX2_count 12 = .ok (.ifCond .eq 11, 3) := by decide +kernel
theorem dX2_count_15 : decode cX2_count 15 = .ok (.aload_n 0, 1) := by decide +kernel
theorem dX2_count_16 : decode cX2_count 16 = .ok (.iload_n 1, 1) := by decide +kernel
theorem dX2_count_17 : decode cX2_count 17 = .ok (.invokevirtual 87, 3) := by decide +kernel
theorem dX2_count_20 : decode cX2_count 20 = .ok (.goto 8, 3) := by decide +kernel
theorem dX2_count_23 : decode cX2_count 23 = .ok (.aload_n 0, 1) := by decide +kernel
theorem dX2_count_24 : decode cX2_count 24 = .ok (.iconst 1, 1) := by decide +kernel
theorem dX2_count_25 : decode cX2_count 25 = .ok (.invokevirtual 33, 3) := by decide +kernel
theorem dX2_count_28 : decode cX2_count 28 = .ok (.ireturn, 1) := by decide +kernel
set_option maxRecDepth 20000 in
theorem ggX2_reach_X2_isTank : GoodIn wsX2_reach wsX2_isTank := goodIn_r _ [8, 2, 9, 10, 7, 11, 21, 22, 23, 24, 25, 26] (by decide +kernel) (by decide +kernel)
set_option maxRecDepth 20000 in
theorem gX2_reach_X2_isTank : GoodIn wsX2_reach (wsV RX2 43 RX2 yX2_isTank wsX2_isTank) := goodIn_app (goodIn_of _ (by decide +kernel)) ggX2_reach_X2_isTank
set_option maxRecDepth 20000 in
theorem ggX2_reach_X2_fail : GoodIn wsX2_reach wsX2_fail := goodIn_r _ [15, 1, 21, 22, 23, 24, 25, 26] (by decide +kernel) (by decide +kernel)
set_option maxRecDepth 20000 in
theorem gX2_reach_X2_fail : GoodIn wsX2_reach (wsV RX2 33 RX2 yX2_fail wsX2_fail) := goodIn_app (goodIn_of _ (by decide +kernel)) ggX2_reach_X2_fail
set_option maxRecDepth 20000 in
theorem ggX2_reach_X2_li : GoodIn wsX2_reach wsX2_li := goodIn_r _ [19, 20, 21, 22, 23, 24, 25, 26] (by decide +kernel) (by decide +kernel)
set_option maxRecDepth 20000 in
theorem gX2_reach_X2_li : GoodIn wsX2_reach (wsV RX2 58 RX2 yX2_li wsX2_li) := goodIn_app (goodIn_of _ (by decide +kernel)) ggX2_reach_X2_li
theorem dX2_reach_0 : decode cX2_reach 0 = .ok (.aload_n 0, 1) := by decide +kernel
theorem dX2_reach_1 : decode cX2_reach 1 = .ok (.iconst 0, 1) := by decide +kernel
theorem dX2_reach_2 : decode cX2_reach 2 = .ok (.putfield 19, 3) := by decide +kernel
theorem dX2_reach_5 : decode cX2_reach 5 = .ok (.aload_n 0, 1) := by decide +kernel
theorem dX2_reach_6 : decode cX2_reach 6 = .ok (.iload_n 1, 1) := by decide +kernel
theorem dX2_reach_7 : decode cX2_reach 7 = .ok (.invokevirtual 43, 3) := by decide +kernel
theorem dX2_reach_10 : decode cX2_reach 10 = .ok (.ifCond .ne 9, 3) := by decide +kernel
theorem dX2_reach_13 : decode cX2_reach 13 = .ok (.aload_n 0, 1) := by decide +kernel
theorem dX2_reach_14 : decode cX2_reach 14 = .ok (.iconst 1, 1) := by decide +kernel
theorem dX2_reach_15 : decode cX2_reach 15 = .ok (.invokevirtual 33, 3) := by decide +kernel
theorem dX2_reach_18 : decode cX2_reach 18 = .ok (.ireturn, 1) := by decide +kernel
theorem dX2_reach_19 : decode cX2_reach 19 = .ok (.iconst 0, 1) := by decide +kernel
theorem dX2_reach_20 : decode cX2_reach 20 = .ok (.istore_n 2, 1) := by decide +kernel
theorem dX2_reach_21 : decode cX2_reach 21 = .ok (.iconst 0, 1) := by decide +kernel
theorem dX2_reach_22 : decode cX2_reach 22 = .ok (.istore_n 3, 1) := by decide +kernel
theorem dX2_reach_23 : decode cX2_reach 23 = .ok (.iload_n 3, 1) := by decide +kernel
theorem dX2_reach_24 : decode cX2_reach 24 = .ok (.aload_n 0, 1) := by decide +kernel
theorem dX2_reach_25 : decode cX2_reach 25 = .ok (.getfield 23, 3) := by decide +kernel
theorem dX2_reach_28 : decode cX2_reach 28 = .ok (.if_icmp .gt 65, 3) := by decide +kernel
theorem dX2_reach_31 : decode cX2_reach 31 = .ok (.iconst 0, 1) := by decide +kernel
theorem dX2_reach_32 : decode cX2_reach 32 = .ok (.istore 4, 2) := by decide +kernel
theorem dX2_reach_34 : decode cX2_reach 34 = .ok (.iload 4, 2) := by decide +kernel
theorem dX2_reach_36 : decode cX2_reach 36 = .ok (.aload_n 0, 1) := by decide +kernel
theorem dX2_reach_37 : decode cX2_reach 37 = .ok (.getfield 30, 3) := by decide +kernel
theorem dX2_reach_40 : decode cX2_reach 40 = .ok (.if_icmp .ge 47, 3) := by decide +kernel
theorem dX2_reach_43 : decode cX2_reach 43 = .ok (.aload_n 0, 1) := by decide +kernel
theorem dX2_reach_44 : decode cX2_reach 44 = .ok (.iload 4, 2) := by decide +kernel
theorem dX2_reach_46 : decode cX2_reach 46 = .ok (.iconst 0, 1) := by decide +kernel
theorem dX2_reach_47 : decode cX2_reach 47 = .ok (.invokevirtual 58, 3) := by decide +kernel
theorem dX2_reach_50 : decode cX2_reach 50 = .ok (.iload_n 1, 1) := by decide +kernel
theorem dX2_reach_51 : decode cX2_reach 51 = .ok (.if_icmp .eq 18, 3) := by decide +kernel
theorem dX2_reach_54 : decode cX2_reach 54 = .ok (.iload_n 2, 1) := by decide +kernel
theorem dX2_reach_55 : decode cX2_reach 55 = .ok (.aload_n 0, 1) := by decide +kernel
theorem dX2_reach_56 : decode cX2_reach 56 = .ok (.iload 4, 2) := by decide +kernel
theorem dX2_reach_58 : decode cX2_reach 58 = .ok (.iconst 0, 1) := by decide +kernel
theorem dX2_reach_59 : decode cX2_reach 59 = .ok (.invokevirtual 58, 3) := by decide +kernel
theorem dX2_reach_62 : decode cX2_reach 62 = .ok (.ishr, 1) := by decide +kernel
theorem dX2_reach_63 : decode cX2_reach 63 = .ok (.iconst 1, 1) := by decide +kernel
theorem dX2_reach_64 : decode cX2_reach 64 = .ok (.iand, 1) := by decide +kernel
theorem dX2_reach_65 : decode cX2_reach 65 = .ok (.iconst 1, 1) := by decide +kernel
theorem dX2_reach_66 : decode cX2_reach 66 = .ok (.if_icmp .ne 15, 3) := by decide +kernel
theorem dX2_reach_69 : decode cX2_reach 69 = .ok (.iload_n 2, 1) := by decide +kernel
theorem dX2_reach_70 : decode cX2_reach 70 = .ok (.iconst 1, 1) := by decide +kernel
theorem dX2_reach_71 : decode cX2_reach 71 = .ok (.aload_n 0, 1) := by decide +kernel
theorem dX2_reach_72 : decode cX2_reach 72 = .ok (.iload 4, 2) := by decide +kernel
theorem dX2_reach_74 : decode cX2_reach 74 = .ok (.iconst 1, 1) := by decide +kernel
theorem dX2_reach_75 : decode cX2_reach 75 = .ok (.invokevirtual 58, 3) := by decide +kernel
theorem dX2_reach_78 : decode cX2_reach 78 = .ok (.ishl, 1) := by decide +kernel
theorem dX2_reach_79 : decode cX2_reach 79 = .ok (.ior, 1) := by decide +kernel
theorem dX2_reach_80 : decode cX2_reach 80 = .ok (.istore_n 2, 1) := by decide +kernel
theorem dX2_reach_81 : decode cX2_reach 81 = .ok (.iinc 4 1, 3) := by decide +kernel
theorem dX2_reach_84 : decode cX2_reach 84 = .ok (.goto (-50), 3) := by decide +kernel
theorem dX2_reach_87 : decode cX2_reach 87 = .ok (.iinc 3 1, 3) := by decide +kernel
theorem dX2_reach_90 : decode cX2_reach 90 = .ok (.goto (-67), 3) := by decide +kernel
theorem dX2_reach_93 : decode cX2_reach 93 = .ok (.iload_n 2, 1) := by decide +kernel
theorem dX2_reach_94 : decode cX2_reach 94 = .ok (.ireturn, 1) := by decide +kernel
set_option maxRecDepth 20000 in
theorem ggX2_suspect_X2_li : GoodIn wsX2_suspect wsX2_li := goodIn_r _ [7, 8, 9, 10, 11, 12, 13, 14] (by decide +kernel) (by decide +kernel)
set_option maxRecDepth 20000 in
theorem gX2_suspect_X2_li : GoodIn wsX2_suspect (wsV RX2 58 RX2 yX2_li wsX2_li) := goodIn_app (goodIn_of _ (by decide +kernel)) ggX2_suspect_X2_li
theorem dX2_suspect_0 : decode cX2_suspect 0 = .ok (.aload_n 0, 1) := by decide +kernel
theorem dX2_suspect_1 : decode cX2_suspect 1 = .ok (.iconst 0, 1) := by decide +kernel
theorem dX2_suspect_2 : decode cX2_suspect 2 = .ok (.putfield 19, 3) := by decide +kernel
theorem dX2_suspect_5 : decode cX2_suspect 5 = .ok (.iconst (-1), 1) := by decide +kernel
theorem dX2_suspect_6 : decode cX2_suspect 6 = .ok (.istore_n 1, 1) := by decide +kernel
theorem dX2_suspect_7 : decode cX2_suspect 7 = .ok (.iconst 0, 1) := by decide +kernel
theorem dX2_suspect_8 : decode cX2_suspect 8 = .ok (.istore_n 2, 1) := by decide +kernel
theorem dX2_suspect_9 : decode cX2_suspect 9 = .ok (.iload_n 2, 1) := by decide +kernel
theorem dX2_suspect_10 : decode cX2_suspect 10 = .ok (.aload_n 0, 1) := by decide +kernel
theorem dX2_suspect_11 : decode cX2_suspect 11 = .ok (.getfield 30, 3) := by decide +kernel
theorem dX2_suspect_14 : decode cX2_suspect 14 = .ok (.if_icmp .ge 37, 3) := by decide +kernel
theorem dX2_suspect_17 : decode cX2_suspect 17 = .ok (.aload_n 0, 1) := by decide +kernel
theorem dX2_suspect_18 : decode cX2_suspect 18 = .ok (.iload_n 2, 1) := by decide +kernel
theorem dX2_suspect_19 : decode cX2_suspect 19 = .ok (.bipush 6, 2) := by decide +kernel
theorem dX2_suspect_21 : decode cX2_suspect 21 = .ok (.invokevirtual 58, 3) := by decide +kernel
theorem dX2_suspect_24 : decode cX2_suspect 24 = .ok (.iload_n 1, 1) := by decide +kernel
theorem dX2_suspect_25 : decode cX2_suspect 25 = .ok (.iconst (-1), 1) := by decide +kernel
theorem dX2_suspect_26 : decode cX2_suspect 26 = .ok (.if_icmp .ne 7, 3) := by decide +kernel
theorem dX2_suspect_29 : decode cX2_suspect 29 = .ok (.iconst 0, 1) := by decide +kernel
theorem dX2_suspect_30 : decode cX2_suspect 30 = .ok (.goto 10, 3) := by decide +kernel
theorem dX2_suspect_33 : decode cX2_suspect 33 = .ok (.aload_n 0, 1) := by decide +kernel
theorem dX2_suspect_34 : decode cX2_suspect 34 = .ok (.iload_n 1, 1) := by decide +kernel
theorem dX2_suspect_35 : decode cX2_suspect 35 = .ok (.bipush 6, 2) := by decide +kernel
theorem dX2_suspect_37 : decode cX2_suspect 37 = .ok (.invokevirtual 58, 3) := by decide +kernel
theorem dX2_suspect_40 : decode cX2_suspect 40 = .ok (.if_icmp .le 5, 3) := by decide +kernel
theorem dX2_suspect_43 : decode cX2_suspect 43 = .ok (.iload_n 2, 1) := by decide +kernel
theorem dX2_suspect_44 : decode cX2_suspect 44 = .ok (.istore_n 1, 1) := by decide +kernel
theorem dX2_suspect_45 : decode cX2_suspect 45 = .ok (.iinc 2 1, 3) := by decide +kernel
theorem dX2_suspect_48 : decode cX2_suspect 48 = .ok (.goto (-39), 3) := by decide +kernel
theorem dX2_suspect_51 : decode cX2_suspect 51 = .ok (.iload_n 1, 1) := by decide +kernel
theorem dX2_suspect_52 : decode cX2_suspect 52 = .ok (.ireturn, 1) := by decide +kernel
set_option maxRecDepth 20000 in
theorem ggX2_pour_X2_la : GoodIn wsX2_pour wsX2_la := goodIn_r _ [12, 13, 18, 19, 20, 21, 22, 23] (by decide +kernel) (by decide +kernel)
set_option maxRecDepth 20000 in
theorem gX2_pour_X2_la : GoodIn wsX2_pour (wsV RX2 47 RX2 yX2_la wsX2_la) := goodIn_app (goodIn_of _ (by decide +kernel)) ggX2_pour_X2_la
set_option maxRecDepth 20000 in
theorem ggX2_pour_X2_setTank : GoodIn wsX2_pour wsX2_setTank := goodIn_r _ [17, 13, 18, 19, 20, 21, 22, 23] (by decide +kernel) (by decide +kernel)
set_option maxRecDepth 20000 in
theorem gX2_pour_X2_setTank : GoodIn wsX2_pour (wsV RX2 51 RX2 yX2_setTank wsX2_setTank) := goodIn_app (goodIn_of _ (by decide +kernel)) ggX2_pour_X2_setTank
theorem dX2_pour_0 : decode cX2_pour 0 = .ok (.aload_n 0, 1) := by decide +kernel
theorem dX2_pour_1 : decode cX2_pour 1 = .ok (.iload_n 1, 1) := by decide +kernel
theorem dX2_pour_2 : decode cX2_pour 2 = .ok (.iconst 3, 1) := by decide +kernel
theorem dX2_pour_3 : decode cX2_pour 3 = .ok (.invokevirtual 47, 3) := by decide +kernel
theorem dX2_pour_6 : decode cX2_pour 6 = .ok (.iload_n 2, 1) := by decide +kernel
theorem dX2_pour_7 : decode cX2_pour 7 = .ok (.iadd, 1) := by decide +kernel
theorem dX2_pour_8 : decode cX2_pour 8 = .ok (.istore 4, 2) := by decide +kernel
theorem dX2_pour_10 : decode cX2_pour 10 = .ok (.aload_n 0, 1) := by decide +kernel
theorem dX2_pour_11 : decode cX2_pour 11 = .ok (.iload_n 1, 1) := by decide +kernel
theorem dX2_pour_12 : decode cX2_pour 12 = .ok (.bipush 7, 2) := by decide +kernel
theorem dX2_pour_14 : decode cX2_pour 14 = .ok (.aload_n 0, 1) := by decide +kernel
theorem dX2_pour_15 : decode cX2_pour 15 = .ok (.iload_n 1, 1) := by decide +kernel
theorem dX2_pour_16 : decode cX2_pour 16 = .ok (.bipush 7, 2) := by decide +kernel
theorem dX2_pour_18 : decode cX2_pour 18 = .ok (.invokevirtual 47, 3) := by decide +kernel
theorem dX2_pour_21 : decode cX2_pour 21 = .ok (.iconst 0, 1) := by decide +kernel
theorem dX2_pour_22 : decode cX2_pour 22 = .ok (.iload 4, 2) := by decide +kernel
theorem dX2_pour_24 : decode cX2_pour 24 = .ok (.sipush 200, 3) := by decide +kernel
theorem dX2_pour_27 : decode cX2_pour 27 = .ok (.isub, 1) := by decide +kernel
theorem dX2_pour_28 : decode cX2_pour 28 = .ok (.invokestatic 67, 3) := by decide +kernel
theorem dX2_pour_31 : decode cX2_pour 31 = .ok (.iadd, 1) := by decide +kernel
theorem dX2_pour_32 : decode cX2_pour 32 = .ok (.invokevirtual 51, 3) := by decide +kernel
theorem dX2_pour_35 : decode cX2_pour 35 = .ok (.aload_n 0, 1) := by decide +kernel
theorem dX2_pour_36 : decode cX2_pour 36 = .ok (.iload_n 1, 1) := by decide +kernel
theorem dX2_pour_37 : decode cX2_pour 37 = .ok (.iconst 3, 1) := by decide +kernel
theorem dX2_pour_38 : decode cX2_pour 38 = .ok (.sipush 200, 3) := by decide +kernel
theorem dX2_pour_41 : decode cX2_pour 41 = .ok (.iload 4, 2) := by decide +kernel
theorem dX2_pour_43 : decode cX2_pour 43 = .ok (.invokestatic 72, 3) := by decide +kernel
theorem dX2_pour_46 : decode cX2_pour 46 = .ok (.invokevirtual 51, 3) := by decide +kernel
theorem dX2_pour_49 : decode cX2_pour 49 = .ok (.aload_n 0, 1) := by decide +kernel
theorem dX2_pour_50 : decode cX2_pour 50 = .ok (.iload_n 1, 1) := by decide +kernel
theorem dX2_pour_51 : decode cX2_pour 51 = .ok (.iconst 4, 1) := by decide +kernel
theorem dX2_pour_52 : decode cX2_pour 52 = .ok (.bipush 99, 2) := by decide +kernel
theorem dX2_pour_54 : decode cX2_pour 54 = .ok (.aload_n 0, 1) := by decide +kernel
theorem dX2_pour_55 : decode cX2_pour 55 = .ok (.iload_n 1, 1) := by decide +kernel
theorem dX2_pour_56 : decode cX2_pour 56 = .ok (.iconst 4, 1) := by decide +kernel
theorem dX2_pour_57 : decode cX2_pour 57 = .ok (.invokevirtual 47, 3) := by decide +kernel
theorem dX2_pour_60 : decode cX2_pour 60 = .ok (.iload_n 3, 1) := by decide +kernel
theorem dX2_pour_61 : decode cX2_pour 61 = .ok (.iadd, 1) := by decide +kernel
theorem dX2_pour_62 : decode cX2_pour 62 = .ok (.invokestatic 72, 3) := by decide +kernel
theorem dX2_pour_65 : decode cX2_pour 65 = .ok (.invokevirtual 51, 3) := by decide +kernel
theorem dX2_pour_68 : decode cX2_pour 68 = .ok (.return_, 1) := by decide +kernel
set_option maxRecDepth 20000 in
theorem ggX2_flow_X2_flows : GoodIn wsX2_flow wsX2_flows := goodIn_r _ [9, 10, 11, 3, 12, 1, 2, 4, 13, 14, 15, 8, 16, 17, 18, 19, 20, 21, 22, 23, 24, 25, 26, 39, 40, 41, 42, 43, 44] (by decide +kernel) (by decide +kernel)
set_option maxRecDepth 20000 in
theorem gX2_flow_X2_flows : GoodIn wsX2_flow (wsV RX2 75 RX2 yX2_flows wsX2_flows) := goodIn_app (goodIn_of _ (by decide +kernel)) ggX2_flow_X2_flows
set_option maxRecDepth 20000 in
theorem ggX2_flow_X2_li : GoodIn wsX2_flow wsX2_li := goodIn_r _ [16, 17, 39, 40, 41, 42, 43, 44] (by decide +kernel) (by decide +kernel)
set_option maxRecDepth 20000 in
theorem gX2_flow_X2_li : GoodIn wsX2_flow (wsV RX2 58 RX2 yX2_li wsX2_li) := goodIn_app (goodIn_of _ (by decide +kernel)) ggX2_flow_X2_li
set_option maxRecDepth 20000 in
theorem ggX2_flow_X2_setPipe : GoodIn wsX2_flow wsX2_setPipe := goodIn_r _ [30, 17, 39, 40, 41, 42, 43, 44] (by decide +kernel) (by decide +kernel)
set_option maxRecDepth 20000 in
theorem gX2_flow_X2_setPipe : GoodIn wsX2_flow (wsV RX2 61 RX2 yX2_setPipe wsX2_setPipe) := goodIn_app (goodIn_of _ (by decide +kernel)) ggX2_flow_X2_setPipe
set_option maxRecDepth 20000 in
theorem ggX2_flow_X2_la : GoodIn wsX2_flow wsX2_la := goodIn_r _ [25, 26, 39, 40, 41, 42, 43, 44] (by decide +kernel) (by decide +kernel)
set_option maxRecDepth 20000 in
theorem gX2_flow_X2_la : GoodIn wsX2_flow (wsV RX2 47 RX2 yX2_la wsX2_la) := goodIn_app (goodIn_of _ (by decide +kernel)) ggX2_flow_X2_la
set_option maxRecDepth 20000 in
theorem ggX2_flow_X2_setTank : GoodIn wsX2_flow wsX2_setTank := goodIn_r _ [34, 26, 39, 40, 41, 42, 43, 44] (by decide +kernel) (by decide +kernel)
set_option maxRecDepth 20000 in
theorem gX2_flow_X2_setTank : GoodIn wsX2_flow (wsV RX2 51 RX2 yX2_setTank wsX2_setTank) := goodIn_app (goodIn_of _ (by decide +kernel)) ggX2_flow_X2_setTank
set_option maxRecDepth 20000 in
theorem ggX2_flow_X2_pour : GoodIn wsX2_flow wsX2_pour := goodIn_r _ [38, 10, 11, 3, 12, 1, 2, 4, 22, 23, 24, 8, 25, 26, 31, 32, 33, 34, 39, 40, 41, 42, 43, 44] (by decide +kernel) (by decide +kernel)
set_option maxRecDepth 20000 in
theorem gX2_flow_X2_pour : GoodIn wsX2_flow (wsV RX2 90 RX2 yX2_pour wsX2_pour) := goodIn_app (goodIn_of _ (by decide +kernel)) ggX2_flow_X2_pour
theorem dX2_flow_0 : decode cX2_flow 0 = .ok (.aload_n 0, 1) := by decide +kernel
theorem dX2_flow_1 : decode cX2_flow 1 = .ok (.iload_n 1, 1) := by decide +kernel
theorem dX2_flow_2 : decode cX2_flow 2 = .ok (.invokevirtual 75, 3) := by decide +kernel
theorem dX2_flow_5 : decode cX2_flow 5 = .ok (.istore_n 2, 1) := by decide +kernel
theorem dX2_flow_6 : decode cX2_flow 6 = .ok (.aload_n 0, 1) := by decide +kernel
theorem dX2_flow_7 : decode cX2_flow 7 = .ok (.iload_n 1, 1) := by decide +kernel
theorem dX2_flow_8 : decode cX2_flow 8 = .ok (.iconst 0, 1) := by decide +kernel
theorem dX2_flow_9 : decode cX2_flow 9 = .ok (.invokevirtual 58, 3) := by decide +kernel
theorem dX2_flow_12 : decode cX2_flow 12 = .ok (.istore_n 3, 1) := by decide +kernel
theorem dX2_flow_13 : decode cX2_flow 13 = .ok (.iload_n 2, 1) := by decide +kernel
theorem dX2_flow_14 : decode cX2_flow 14 = .ok (.aload_n 0, 1) := by decide +kernel
theorem dX2_flow_15 : decode cX2_flow 15 = .ok (.iload_n 1, 1) := by decide +kernel
theorem dX2_flow_16 : decode cX2_flow 16 = .ok (.bipush 8, 2) := by decide +kernel
theorem dX2_flow_18 : decode cX2_flow 18 = .ok (.invokevirtual 58, 3) := by decide +kernel
theorem dX2_flow_21 : decode cX2_flow 21 = .ok (.invokestatic 72, 3) := by decide +kernel
theorem dX2_flow_24 : decode cX2_flow 24 = .ok (.istore 4, 2) := by decide +kernel
theorem dX2_flow_26 : decode cX2_flow 26 = .ok (.aload_n 0, 1) := by decide +kernel
theorem dX2_flow_27 : decode cX2_flow 27 = .ok (.iload_n 1, 1) := by decide +kernel
theorem dX2_flow_28 : decode cX2_flow 28 = .ok (.iconst 5, 1) := by decide +kernel
theorem dX2_flow_29 : decode cX2_flow 29 = .ok (.iload_n 2, 1) := by decide +kernel
theorem dX2_flow_30 : decode cX2_flow 30 = .ok (.invokevirtual 61, 3) := by decide +kernel
theorem dX2_flow_33 : decode cX2_flow 33 = .ok (.aload_n 0, 1) := by decide +kernel
theorem dX2_flow_34 : decode cX2_flow 34 = .ok (.iload_n 1, 1) := by decide +kernel
theorem dX2_flow_35 : decode cX2_flow 35 = .ok (.bipush 6, 2) := by decide +kernel
theorem dX2_flow_37 : decode cX2_flow 37 = .ok (.iload 4, 2) := by decide +kernel
theorem dX2_flow_39 : decode cX2_flow 39 = .ok (.invokevirtual 61, 3) := by decide +kernel
theorem dX2_flow_42 : decode cX2_flow 42 = .ok (.aload_n 0, 1) := by decide +kernel
theorem dX2_flow_43 : decode cX2_flow 43 = .ok (.iload_n 1, 1) := by decide +kernel
theorem dX2_flow_44 : decode cX2_flow 44 = .ok (.bipush 7, 2) := by decide +kernel
theorem dX2_flow_46 : decode cX2_flow 46 = .ok (.aload_n 0, 1) := by decide +kernel
theorem dX2_flow_47 : decode cX2_flow 47 = .ok (.iload_n 1, 1) := by decide +kernel
theorem dX2_flow_48 : decode cX2_flow 48 = .ok (.bipush 7, 2) := by decide +kernel
theorem dX2_flow_50 : decode cX2_flow 50 = .ok (.invokevirtual 58, 3) := by decide +kernel
theorem dX2_flow_53 : decode cX2_flow 53 = .ok (.iload 4, 2) := by decide +kernel
theorem dX2_flow_55 : decode cX2_flow 55 = .ok (.iadd, 1) := by decide +kernel
theorem dX2_flow_56 : decode cX2_flow 56 = .ok (.invokevirtual 61, 3) := by decide +kernel
theorem dX2_flow_59 : decode cX2_flow 59 = .ok (.iload_n 2, 1) := by decide +kernel
theorem dX2_flow_60 : decode cX2_flow 60 = .ok (.ifCond .ne 4, 3) := by decide +kernel
theorem dX2_flow_63 : decode cX2_flow 63 = .ok (.return_, 1) := by decide +kernel
theorem dX2_flow_64 : decode cX2_flow 64 = .ok (.aload_n 0, 1) := by decide +kernel
theorem dX2_flow_65 : decode cX2_flow 65 = .ok (.iload_n 3, 1) := by decide +kernel
theorem dX2_flow_66 : decode cX2_flow 66 = .ok (.iconst 4, 1) := by decide +kernel
theorem dX2_flow_67 : decode cX2_flow 67 = .ok (.invokevirtual 47, 3) := by decide +kernel
theorem dX2_flow_70 : decode cX2_flow 70 = .ok (.iload_n 2, 1) := by decide +kernel
theorem dX2_flow_71 : decode cX2_flow 71 = .ok (.imul, 1) := by decide +kernel
theorem dX2_flow_72 : decode cX2_flow 72 = .ok (.aload_n 0, 1) := by decide +kernel
theorem dX2_flow_73 : decode cX2_flow 73 = .ok (.iload_n 3, 1) := by decide +kernel
theorem dX2_flow_74 : decode cX2_flow 74 = .ok (.iconst 3, 1) := by decide +kernel
theorem dX2_flow_75 : decode cX2_flow 75 = .ok (.invokevirtual 47, 3) := by decide +kernel
theorem dX2_flow_78 : decode cX2_flow 78 = .ok (.idiv, 1) := by decide +kernel
theorem dX2_flow_79 : decode cX2_flow 79 = .ok (.istore 5, 2) := by decide +kernel
theorem dX2_flow_81 : decode cX2_flow 81 = .ok (.aload_n 0, 1) := by decide +kernel
theorem dX2_flow_82 : decode cX2_flow 82 = .ok (.iload_n 3, 1) := by decide +kernel
theorem dX2_flow_83 : decode cX2_flow 83 = .ok (.iconst 3, 1) := by decide +kernel
theorem dX2_flow_84 : decode cX2_flow 84 = .ok (.aload_n 0, 1) := by decide +kernel
theorem dX2_flow_85 : decode cX2_flow 85 = .ok (.iload_n 3, 1) := by decide +kernel
theorem dX2_flow_86 : decode cX2_flow 86 = .ok (.iconst 3, 1) := by decide +kernel
theorem dX2_flow_87 : decode cX2_flow 87 = .ok (.invokevirtual 47, 3) := by decide +kernel
theorem dX2_flow_90 : decode cX2_flow 90 = .ok (.iload_n 2, 1) := by decide +kernel
theorem dX2_flow_91 : decode cX2_flow 91 = .ok (.isub, 1) := by decide +kernel
theorem dX2_flow_92 : decode cX2_flow 92 = .ok (.invokevirtual 51, 3) := by decide +kernel
theorem dX2_flow_95 : decode cX2_flow 95 = .ok (.aload_n 0, 1) := by decide +kernel
theorem dX2_flow_96 : decode cX2_flow 96 = .ok (.iload_n 3, 1) := by decide +kernel
theorem dX2_flow_97 : decode cX2_flow 97 = .ok (.iconst 4, 1) := by decide +kernel
theorem dX2_flow_98 : decode cX2_flow 98 = .ok (.aload_n 0, 1) := by decide +kernel
theorem dX2_flow_99 : decode cX2_flow 99 = .ok (.iload_n 3, 1) := by decide +kernel
theorem dX2_flow_100 : decode cX2_flow 100 = .ok (.iconst 4, 1) := by decide +kernel
theorem dX2_flow_101 : decode cX2_flow 101 = .ok (.invokevirtual 47, 3) := by decide +kernel
theorem dX2_flow_104 : decode cX2_flow 104 = .ok (.iload 5, 2) := by decide +kernel
theorem dX2_flow_106 : decode cX2_flow 106 = .ok (.isub, 1) := by decide +kernel
theorem dX2_flow_107 : decode cX2_flow 107 = .ok (.invokevirtual 51, 3) := by decide +kernel
theorem dX2_flow_110 : decode cX2_flow 110 = .ok (.aload_n 0, 1) := by decide +kernel
theorem dX2_flow_111 : decode cX2_flow 111 = .ok (.aload_n 0, 1) := by decide +kernel
theorem dX2_flow_112 : decode cX2_flow 112 = .ok (.iload_n 1, 1) := by decide +kernel
theorem dX2_flow_113 : decode cX2_flow 113 = .ok (.iconst 1, 1) := by decide +kernel
theorem dX2_flow_114 : decode cX2_flow 114 = .ok (.invokevirtual 58, 3) := by decide +kernel
theorem dX2_flow_117 : decode cX2_flow 117 = .ok (.iload_n 2, 1) := by decide +kernel
theorem dX2_flow_118 : decode cX2_flow 118 = .ok (.iload 4, 2) := by decide +kernel
theorem dX2_flow_120 : decode cX2_flow 120 = .ok (.isub, 1) := by decide +kernel
theorem dX2_flow_121 : decode cX2_flow 121 = .ok (.iload 5, 2) := by decide +kernel
theorem dX2_flow_123 : decode cX2_flow 123 = .ok (.invokevirtual 90, 3) := by decide +kernel
theorem dX2_flow_126 : decode cX2_flow 126 = .ok (.return_, 1) := by decide +kernel
set_option maxRecDepth 20000 in
theorem ggX2_dayOn_X2_la : GoodIn wsX2_dayOn wsX2_la := goodIn_r _ [12, 13, 46, 47, 48, 49, 50, 51] (by decide +kernel) (by decide +kernel)
set_option maxRecDepth 20000 in
theorem gX2_dayOn_X2_la : GoodIn wsX2_dayOn (wsV RX2 47 RX2 yX2_la wsX2_la) := goodIn_app (goodIn_of _ (by decide +kernel)) ggX2_dayOn_X2_la
set_option maxRecDepth 20000 in
theorem ggX2_dayOn_X2_pour : GoodIn wsX2_dayOn wsX2_pour := goodIn_r _ [17, 18, 19, 6, 20, 4, 5, 7, 8, 9, 10, 11, 12, 13, 21, 22, 23, 24, 46, 47, 48, 49, 50, 51] (by decide +kernel) (by decide +kernel)
set_option maxRecDepth 20000 in
theorem gX2_dayOn_X2_pour : GoodIn wsX2_dayOn (wsV RX2 90 RX2 yX2_pour wsX2_pour) := goodIn_app (goodIn_of _ (by decide +kernel)) ggX2_dayOn_X2_pour
set_option maxRecDepth 20000 in
theorem ggX2_dayOn_X2_flow : GoodIn wsX2_dayOn wsX2_flow := goodIn_r _ [28, 4, 5, 6, 7, 29, 30, 31, 11, 32, 18, 19, 20, 33, 34, 35, 36, 37, 38, 39, 40, 41, 8, 9, 10, 12, 13, 42, 43, 44, 45, 21, 22, 23, 24, 14, 15, 16, 17, 46, 47, 48, 49, 50, 51] (by decide +kernel) (by decide +kernel)
set_option maxRecDepth 20000 in
theorem gX2_dayOn_X2_flow : GoodIn wsX2_dayOn (wsV RX2 93 RX2 yX2_flow wsX2_flow) := goodIn_app (goodIn_of _ (by decide +kernel)) ggX2_dayOn_X2_flow
set_option maxRecDepth 20000 in
theorem ggX2_dayOn_X2_li : GoodIn wsX2_dayOn wsX2_li := goodIn_r _ [36, 37, 46, 47, 48, 49, 50, 51] (by decide +kernel) (by decide +kernel)
set_option maxRecDepth 20000 in
theorem gX2_dayOn_X2_li : GoodIn wsX2_dayOn (wsV RX2 58 RX2 yX2_li wsX2_li) := goodIn_app (goodIn_of _ (by decide +kernel)) ggX2_dayOn_X2_li
set_option maxRecDepth 20000 in
theorem ggX2_dayOn_X2_setPipe : GoodIn wsX2_dayOn wsX2_setPipe := goodIn_r _ [45, 37, 46, 47, 48, 49, 50, 51] (by decide +kernel) (by decide +kernel)
set_option maxRecDepth 20000 in
theorem gX2_dayOn_X2_setPipe : GoodIn wsX2_dayOn (wsV RX2 61 RX2 yX2_setPipe wsX2_setPipe) := goodIn_app (goodIn_of _ (by decide +kernel)) ggX2_dayOn_X2_setPipe
set_option maxRecDepth 20000 in
theorem ggX2_dayOn_X2_setTank : GoodIn wsX2_dayOn wsX2_setTank := goodIn_r _ [24, 13, 46, 47, 48, 49, 50, 51] (by decide +kernel) (by decide +kernel)
set_option maxRecDepth 20000 in
theorem gX2_dayOn_X2_setTank : GoodIn wsX2_dayOn (wsV RX2 51 RX2 yX2_setTank wsX2_setTank) := goodIn_app (goodIn_of _ (by decide +kernel)) ggX2_dayOn_X2_setTank
theorem dX2_dayOn_0 : decode cX2_dayOn 0 = .ok (.iconst 0, 1) := by decide +kernel
theorem dX2_dayOn_1 : decode cX2_dayOn 1 = .ok (.istore_n 1, 1) := by decide +kernel
theorem dX2_dayOn_2 : decode cX2_dayOn 2 = .ok (.iload_n 1, 1) := by decide +kernel
theorem dX2_dayOn_3 : decode cX2_dayOn 3 = .ok (.aload_n 0, 1) := by decide +kernel
theorem dX2_dayOn_4 : decode cX2_dayOn 4 = .ok (.getfield 23, 3) := by decide +kernel
theorem dX2_dayOn_7 : decode cX2_dayOn 7 = .ok (.if_icmp .ge 28, 3) := by decide +kernel
theorem dX2_dayOn_10 : decode cX2_dayOn 10 = .ok (.aload_n 0, 1) := by decide +kernel
theorem dX2_dayOn_11 : decode cX2_dayOn 11 = .ok (.iload_n 1, 1) := by decide +kernel
theorem dX2_dayOn_12 : decode cX2_dayOn 12 = .ok (.aload_n 0, 1) := by decide +kernel
theorem dX2_dayOn_13 : decode cX2_dayOn 13 = .ok (.iload_n 1, 1) := by decide +kernel
theorem dX2_dayOn_14 : decode cX2_dayOn 14 = .ok (.iconst 1, 1) := by decide +kernel
theorem dX2_dayOn_15 : decode cX2_dayOn 15 = .ok (.invokevirtual 47, 3) := by decide +kernel
theorem dX2_dayOn_18 : decode cX2_dayOn 18 = .ok (.aload_n 0, 1) := by decide +kernel
theorem dX2_dayOn_19 : decode cX2_dayOn 19 = .ok (.iload_n 1, 1) := by decide +kernel
theorem dX2_dayOn_20 : decode cX2_dayOn 20 = .ok (.iconst 1, 1) := by decide +kernel
theorem dX2_dayOn_21 : decode cX2_dayOn 21 = .ok (.invokevirtual 47, 3) := by decide +kernel
theorem dX2_dayOn_24 : decode cX2_dayOn 24 = .ok (.iconst 4, 1) := by decide +kernel
theorem dX2_dayOn_25 : decode cX2_dayOn 25 = .ok (.idiv, 1) := by decide +kernel
theorem dX2_dayOn_26 : decode cX2_dayOn 26 = .ok (.invokevirtual 90, 3) := by decide +kernel
theorem dX2_dayOn_29 : decode cX2_dayOn 29 = .ok (.iinc 1 1, 3) := by decide +kernel
theorem dX2_dayOn_32 : decode cX2_dayOn 32 = .ok (.goto (-30), 3) := by decide +kernel
theorem dX2_dayOn_35 : decode cX2_dayOn 35 = .ok (.iconst 0, 1) := by decide +kernel
theorem dX2_dayOn_36 : decode cX2_dayOn 36 = .ok (.istore_n 1, 1) := by decide +kernel
theorem dX2_dayOn_37 : decode cX2_dayOn 37 = .ok (.iload_n 1, 1) := by decide +kernel
theorem dX2_dayOn_38 : decode cX2_dayOn 38 = .ok (.aload_n 0, 1) := by decide +kernel
theorem dX2_dayOn_39 : decode cX2_dayOn 39 = .ok (.getfield 30, 3) := by decide +kernel
theorem dX2_dayOn_42 : decode cX2_dayOn 42 = .ok (.if_icmp .ge 14, 3) := by decide +kernel
theorem dX2_dayOn_45 : decode cX2_dayOn 45 = .ok (.aload_n 0, 1) := by decide +kernel
theorem dX2_dayOn_46 : decode cX2_dayOn 46 = .ok (.iload_n 1, 1) := by decide +kernel
theorem dX2_dayOn_47 : decode cX2_dayOn 47 = .ok (.invokevirtual 93, 3) := by decide +kernel
theorem dX2_dayOn_50 : decode cX2_dayOn 50 = .ok (.iinc 1 1, 3) := by decide +kernel
theorem dX2_dayOn_53 : decode cX2_dayOn 53 = .ok (.goto (-16), 3) := by decide +kernel
theorem dX2_dayOn_56 : decode cX2_dayOn 56 = .ok (.iconst 0, 1) := by decide +kernel
theorem dX2_dayOn_57 : decode cX2_dayOn 57 = .ok (.istore_n 1, 1) := by decide +kernel
theorem dX2_dayOn_58 : decode cX2_dayOn 58 = .ok (.iload_n 1, 1) := by decide +kernel
theorem dX2_dayOn_59 : decode cX2_dayOn 59 = .ok (.aload_n 0, 1) := by decide +kernel
theorem dX2_dayOn_60 : decode cX2_dayOn 60 = .ok (.getfield 30, 3) := by decide +kernel
theorem dX2_dayOn_63 : decode cX2_dayOn 63 = .ok (.if_icmp .ge 48, 3) := by decide +kernel
theorem dX2_dayOn_66 : decode cX2_dayOn 66 = .ok (.aload_n 0, 1) := by decide +kernel
theorem dX2_dayOn_67 : decode cX2_dayOn 67 = .ok (.getfield 16, 3) := by decide +kernel
theorem dX2_dayOn_70 : decode cX2_dayOn 70 = .ok (.iconst 0, 1) := by decide +kernel
theorem dX2_dayOn_71 : decode cX2_dayOn 71 = .ok (.iaload, 1) := by decide +kernel
theorem dX2_dayOn_72 : decode cX2_dayOn 72 = .ok (.iconst 4, 1) := by decide +kernel
theorem dX2_dayOn_73 : decode cX2_dayOn 73 = .ok (.irem, 1) := by decide +kernel
theorem dX2_dayOn_74 : decode cX2_dayOn 74 = .ok (.ifCond .ne 37, 3) := by decide +kernel
theorem dX2_dayOn_77 : decode cX2_dayOn 77 = .ok (.aload_n 0, 1) := by decide +kernel
theorem dX2_dayOn_78 : decode cX2_dayOn 78 = .ok (.iload_n 1, 1) := by decide +kernel
theorem dX2_dayOn_79 : decode cX2_dayOn 79 = .ok (.iconst 5, 1) := by decide +kernel
theorem dX2_dayOn_80 : decode cX2_dayOn 80 = .ok (.invokevirtual 58, 3) := by decide +kernel
theorem dX2_dayOn_83 : decode cX2_dayOn 83 = .ok (.ifCond .le 22, 3) := by decide +kernel
theorem dX2_dayOn_86 : decode cX2_dayOn 86 = .ok (.aload_n 0, 1) := by decide +kernel
theorem dX2_dayOn_87 : decode cX2_dayOn 87 = .ok (.iload_n 1, 1) := by decide +kernel
theorem dX2_dayOn_88 : decode cX2_dayOn 88 = .ok (.iconst 4, 1) := by decide +kernel
theorem dX2_dayOn_89 : decode cX2_dayOn 89 = .ok (.bipush 20, 2) := by decide +kernel
theorem dX2_dayOn_91 : decode cX2_dayOn 91 = .ok (.aload_n 0, 1) := by decide +kernel
theorem dX2_dayOn_92 : decode cX2_dayOn 92 = .ok (.iload_n 1, 1) := by decide +kernel
theorem dX2_dayOn_93 : decode cX2_dayOn 93 = .ok (.iconst 4, 1) := by decide +kernel
theorem dX2_dayOn_94 : decode cX2_dayOn 94 = .ok (.invokevirtual 58, 3) := by decide +kernel
theorem dX2_dayOn_97 : decode cX2_dayOn 97 = .ok (.iconst 1, 1) := by decide +kernel
theorem dX2_dayOn_98 : decode cX2_dayOn 98 = .ok (.iadd, 1) := by decide +kernel
theorem dX2_dayOn_99 : decode cX2_dayOn 99 = .ok (.invokestatic 72, 3) := by decide +kernel
theorem dX2_dayOn_102 : decode cX2_dayOn 102 = .ok (.invokevirtual 61, 3) := by decide +kernel
theorem dX2_dayOn_105 : decode cX2_dayOn 105 = .ok (.iinc 1 1, 3) := by decide +kernel
theorem dX2_dayOn_108 : decode cX2_dayOn 108 = .ok (.goto (-50), 3) := by decide +kernel
theorem dX2_dayOn_111 : decode cX2_dayOn 111 = .ok (.iconst 0, 1) := by decide +kernel
theorem dX2_dayOn_112 : decode cX2_dayOn 112 = .ok (.istore_n 1, 1) := by decide +kernel
theorem dX2_dayOn_113 : decode cX2_dayOn 113 = .ok (.iload_n 1, 1) := by decide +kernel
theorem dX2_dayOn_114 : decode cX2_dayOn 114 = .ok (.aload_n 0, 1) := by decide +kernel
theorem dX2_dayOn_115 : decode cX2_dayOn 115 = .ok (.getfield 23, 3) := by decide +kernel
theorem dX2_dayOn_118 : decode cX2_dayOn 118 = .ok (.if_icmp .ge 86, 3) := by decide +kernel
theorem dX2_dayOn_121 : decode cX2_dayOn 121 = .ok (.aload_n 0, 1) := by decide +kernel
theorem dX2_dayOn_122 : decode cX2_dayOn 122 = .ok (.iload_n 1, 1) := by decide +kernel
theorem dX2_dayOn_123 : decode cX2_dayOn 123 = .ok (.iconst 4, 1) := by decide +kernel
theorem dX2_dayOn_124 : decode cX2_dayOn 124 = .ok (.invokevirtual 47, 3) := by decide +kernel
theorem dX2_dayOn_127 : decode cX2_dayOn 127 = .ok (.bipush 50, 2) := by decide +kernel
theorem dX2_dayOn_129 : decode cX2_dayOn 129 = .ok (.if_icmp .lt 14, 3) := by decide +kernel
theorem dX2_dayOn_132 : decode cX2_dayOn 132 = .ok (.aload_n 0, 1) := by decide +kernel
theorem dX2_dayOn_133 : decode cX2_dayOn 133 = .ok (.iload_n 1, 1) := by decide +kernel
theorem dX2_dayOn_134 : decode cX2_dayOn 134 = .ok (.iconst 2, 1) := by decide +kernel
theorem dX2_dayOn_135 : decode cX2_dayOn 135 = .ok (.invokevirtual 47, 3) := by decide +kernel
theorem dX2_dayOn_138 : decode cX2_dayOn 138 = .ok (.iconst 2, 1) := by decide +kernel
theorem dX2_dayOn_139 : decode cX2_dayOn 139 = .ok (.idiv, 1) := by decide +kernel
theorem dX2_dayOn_140 : decode cX2_dayOn 140 = .ok (.goto 9, 3) := by decide +kernel
theorem dX2_dayOn_143 : decode cX2_dayOn 143 = .ok (.aload_n 0, 1) := by decide +kernel
theorem dX2_dayOn_144 : decode cX2_dayOn 144 = .ok (.iload_n 1, 1) := by decide +kernel
theorem dX2_dayOn_145 : decode cX2_dayOn 145 = .ok (.iconst 2, 1) := by decide +kernel
theorem dX2_dayOn_146 : decode cX2_dayOn 146 = .ok (.invokevirtual 47, 3) := by decide +kernel
theorem dX2_dayOn_149 : decode cX2_dayOn 149 = .ok (.istore_n 2, 1) := by decide +kernel
theorem dX2_dayOn_150 : decode cX2_dayOn 150 = .ok (.iload_n 2, 1) := by decide +kernel
theorem dX2_dayOn_151 : decode cX2_dayOn 151 = .ok (.aload_n 0, 1) := by decide +kernel
theorem dX2_dayOn_152 : decode cX2_dayOn 152 = .ok (.iload_n 1, 1) := by decide +kernel
theorem dX2_dayOn_153 : decode cX2_dayOn 153 = .ok (.iconst 3, 1) := by decide +kernel
theorem dX2_dayOn_154 : decode cX2_dayOn 154 = .ok (.invokevirtual 47, 3) := by decide +kernel
theorem dX2_dayOn_157 : decode cX2_dayOn 157 = .ok (.invokestatic 72, 3) := by decide +kernel
theorem dX2_dayOn_160 : decode cX2_dayOn 160 = .ok (.istore_n 3, 1) := by decide +kernel
theorem dX2_dayOn_161 : decode cX2_dayOn 161 = .ok (.aload_n 0, 1) := by decide +kernel
theorem dX2_dayOn_162 : decode cX2_dayOn 162 = .ok (.iload_n 1, 1) := by decide +kernel
theorem dX2_dayOn_163 : decode cX2_dayOn 163 = .ok (.iconst 3, 1) := by decide +kernel
theorem dX2_dayOn_164 : decode cX2_dayOn 164 = .ok (.aload_n 0, 1) := by decide +kernel
theorem dX2_dayOn_165 : decode cX2_dayOn 165 = .ok (.iload_n 1, 1) := by decide +kernel
theorem dX2_dayOn_166 : decode cX2_dayOn 166 = .ok (.iconst 3, 1) := by decide +kernel
theorem dX2_dayOn_167 : decode cX2_dayOn 167 = .ok (.invokevirtual 47, 3) := by decide +kernel
theorem dX2_dayOn_170 : decode cX2_dayOn 170 = .ok (.iload_n 3, 1) := by decide +kernel
theorem dX2_dayOn_171 : decode cX2_dayOn 171 = .ok (.isub, 1) := by decide +kernel
theorem dX2_dayOn_172 : decode cX2_dayOn 172 = .ok (.invokevirtual 51, 3) := by decide +kernel
theorem dX2_dayOn_175 : decode cX2_dayOn 175 = .ok (.aload_n 0, 1) := by decide +kernel
theorem dX2_dayOn_176 : decode cX2_dayOn 176 = .ok (.iload_n 1, 1) := by decide +kernel
theorem dX2_dayOn_177 : decode cX2_dayOn 177 = .ok (.iconst 5, 1) := by decide +kernel
theorem dX2_dayOn_178 : decode cX2_dayOn 178 = .ok (.iload_n 3, 1) := by decide +kernel
theorem dX2_dayOn_179 : decode cX2_dayOn 179 = .ok (.invokevirtual 51, 3) := by decide +kernel
theorem dX2_dayOn_182 : decode cX2_dayOn 182 = .ok (.aload_n 0, 1) := by decide +kernel
theorem dX2_dayOn_183 : decode cX2_dayOn 183 = .ok (.iload_n 1, 1) := by decide +kernel
theorem dX2_dayOn_184 : decode cX2_dayOn 184 = .ok (.bipush 6, 2) := by decide +kernel
theorem dX2_dayOn_186 : decode cX2_dayOn 186 = .ok (.aload_n 0, 1) := by decide +kernel
theorem dX2_dayOn_187 : decode cX2_dayOn 187 = .ok (.iload_n 1, 1) := by decide +kernel
theorem dX2_dayOn_188 : decode cX2_dayOn 188 = .ok (.bipush 6, 2) := by decide +kernel
theorem dX2_dayOn_190 : decode cX2_dayOn 190 = .ok (.invokevirtual 47, 3) := by decide +kernel
theorem dX2_dayOn_193 : decode cX2_dayOn 193 = .ok (.iload_n 3, 1) := by decide +kernel
theorem dX2_dayOn_194 : decode cX2_dayOn 194 = .ok (.iadd, 1) := by decide +kernel
theorem dX2_dayOn_195 : decode cX2_dayOn 195 = .ok (.invokevirtual 51, 3) := by decide +kernel
theorem dX2_dayOn_198 : decode cX2_dayOn 198 = .ok (.iinc 1 1, 3) := by decide +kernel
theorem dX2_dayOn_201 : decode cX2_dayOn 201 = .ok (.goto (-88), 3) := by decide +kernel
theorem dX2_dayOn_204 : decode cX2_dayOn 204 = .ok (.aload_n 0, 1) := by decide +kernel
theorem dX2_dayOn_205 : decode cX2_dayOn 205 = .ok (.getfield 16, 3) := by decide +kernel
theorem dX2_dayOn_208 : decode cX2_dayOn 208 = .ok (.iconst 0, 1) := by decide +kernel
theorem dX2_dayOn_209 : decode cX2_dayOn 209 = .ok (.dup2, 1) := by decide +kernel
theorem dX2_dayOn_210 : decode cX2_dayOn 210 = .ok (.iaload, 1) := by decide +kernel
theorem dX2_dayOn_211 : decode cX2_dayOn 211 = .ok (.iconst 1, 1) := by decide +kernel
theorem dX2_dayOn_212 : decode cX2_dayOn 212 = .ok (.iadd, 1) := by decide +kernel
theorem dX2_dayOn_213 : decode cX2_dayOn 213 = .ok (.iastore, 1) := by decide +kernel
theorem dX2_dayOn_214 : decode cX2_dayOn 214 = .ok (.return_, 1) := by decide +kernel
set_option maxRecDepth 20000 in
theorem ggX2_daysOn_X2_dayOn : GoodIn wsX2_daysOn wsX2_dayOn := goodIn_r _ [5, 6, 7, 8, 9, 10, 11, 12, 13, 14, 15, 4, 16, 17, 18, 19, 20, 21, 22, 23, 24, 25, 26, 27, 28, 29, 30, 31, 32, 33, 34, 35, 36, 37, 38, 39, 40, 41, 42, 43, 44, 45, 46, 47, 48, 49, 50, 51, 52, 53, 54, 55] (by decide +kernel) (by decide +kernel)
set_option maxRecDepth 20000 in
theorem gX2_daysOn_X2_dayOn : GoodIn wsX2_daysOn (wsV RX2 97 RX2 yX2_dayOn wsX2_dayOn) := goodIn_app (goodIn_of _ (by decide +kernel)) ggX2_daysOn_X2_dayOn
theorem dX2_daysOn_0 : decode cX2_daysOn 0 = .ok (.iconst 0, 1) := by decide +kernel
theorem dX2_daysOn_1 : decode cX2_daysOn 1 = .ok (.istore_n 2, 1) := by decide +kernel
theorem dX2_daysOn_2 : decode cX2_daysOn 2 = .ok (.iload_n 2, 1) := by decide +kernel
theorem dX2_daysOn_3 : decode cX2_daysOn 3 = .ok (.iload_n 1, 1) := by decide +kernel
theorem dX2_daysOn_4 : decode cX2_daysOn 4 = .ok (.if_icmp .ge 13, 3) := by decide +kernel
theorem dX2_daysOn_7 : decode cX2_daysOn 7 = .ok (.aload_n 0, 1) := by decide +kernel
theorem dX2_daysOn_8 : decode cX2_daysOn 8 = .ok (.invokevirtual 97, 3) := by decide +kernel
theorem dX2_daysOn_11 : decode cX2_daysOn 11 = .ok (.iinc 2 1, 3) := by decide +kernel
theorem dX2_daysOn_14 : decode cX2_daysOn 14 = .ok (.goto (-12), 3) := by decide +kernel
theorem dX2_daysOn_17 : decode cX2_daysOn 17 = .ok (.return_, 1) := by decide +kernel
set_option maxRecDepth 20000 in
theorem ggX2_pass_X2_isIn : GoodIn wsX2_pass wsX2_isIn := goodIn_r _ [5] (by decide +kernel) (by decide +kernel)
set_option maxRecDepth 20000 in
theorem gX2_pass_X2_isIn : GoodIn wsX2_pass (va_wsS RX2 26 yX2_isIn wsX2_isIn) := goodIn_app (goodIn_of _ (by decide +kernel)) ggX2_pass_X2_isIn
set_option maxRecDepth 20000 in
theorem ggX2_pass_X2_fail : GoodIn wsX2_pass wsX2_fail := goodIn_r _ [9, 1, 66, 67, 68, 69, 70, 71] (by decide +kernel) (by decide +kernel)
set_option maxRecDepth 20000 in
theorem gX2_pass_X2_fail : GoodIn wsX2_pass (wsV RX2 33 RX2 yX2_fail wsX2_fail) := goodIn_app (goodIn_of _ (by decide +kernel)) ggX2_pass_X2_fail
set_option maxRecDepth 20000 in
theorem ggX2_pass_X2_all : GoodIn wsX2_pass wsX2_all := goodIn_r _ [13, 14, 15, 16, 17, 4, 18, 19, 66, 67, 68, 69, 70, 71] (by decide +kernel) (by decide +kernel)
set_option maxRecDepth 20000 in
theorem gX2_pass_X2_all : GoodIn wsX2_pass (wsV RX2 81 RX2 yX2_all wsX2_all) := goodIn_app (goodIn_of _ (by decide +kernel)) ggX2_pass_X2_all
set_option maxRecDepth 20000 in
theorem ggX2_pass_X2_daysOn : GoodIn wsX2_pass wsX2_daysOn := goodIn_r _ [23, 24, 25, 26, 4, 27, 14, 28, 29, 30, 31, 32, 33, 15, 16, 17, 18, 19, 34, 35, 36, 37, 38, 39, 40, 41, 42, 43, 44, 45, 46, 47, 48, 49, 50, 51, 52, 53, 54, 55, 56, 57, 58, 59, 60, 61, 62, 63, 64, 65, 66, 67, 68, 69, 70, 71] (by decide +kernel) (by decide +kernel)
set_option maxRecDepth 20000 in
theorem gX2_pass_X2_daysOn : GoodIn wsX2_pass (wsV RX2 100 RX2 yX2_daysOn wsX2_daysOn) := goodIn_app (goodIn_of _ (by decide +kernel)) ggX2_pass_X2_daysOn
theorem dX2_pass_0 : decode cX2_pass 0 = .ok (.aload_n 0, 1) := by decide +kernel
theorem dX2_pass_1 : decode cX2_pass 1 = .ok (.iconst 0, 1) := by decide +kernel
theorem dX2_pass_2 : decode cX2_pass 2 = .ok (.putfield 19, 3) := by decide +kernel
theorem dX2_pass_5 : decode cX2_pass 5 = .ok (.iload_n 1, 1) := by decide +kernel
theorem dX2_pass_6 : decode cX2_pass 6 = .ok (.iconst 1, 1) := by decide +kernel
theorem dX2_pass_7 : decode cX2_pass 7 = .ok (.bipush 100, 2) := by decide +kernel
theorem dX2_pass_9 : decode cX2_pass 9 = .ok (.invokestatic 26, 3) := by decide +kernel
theorem dX2_pass_12 : decode cX2_pass 12 = .ok (.ifCond .ne 9, 3) := by decide +kernel
theorem dX2_pass_15 : decode cX2_pass 15 = .ok (.aload_n 0, 1) := by decide +kernel
theorem dX2_pass_16 : decode cX2_pass 16 = .ok (.iconst 1, 1) := by decide +kernel
theorem dX2_pass_17 : decode cX2_pass 17 = .ok (.invokevirtual 33, 3) := by decide +kernel
theorem dX2_pass_20 : decode cX2_pass 20 = .ok (.ireturn, 1) := by decide +kernel
theorem dX2_pass_21 : decode cX2_pass 21 = .ok (.aload_n 0, 1) := by decide +kernel
theorem dX2_pass_22 : decode cX2_pass 22 = .ok (.bipush 6, 2) := by decide +kernel
theorem dX2_pass_24 : decode cX2_pass 24 = .ok (.invokevirtual 81, 3) := by decide +kernel
theorem dX2_pass_27 : decode cX2_pass 27 = .ok (.istore_n 2, 1) := by decide +kernel
theorem dX2_pass_28 : decode cX2_pass 28 = .ok (.aload_n 0, 1) := by decide +kernel
theorem dX2_pass_29 : decode cX2_pass 29 = .ok (.iload_n 1, 1) := by decide +kernel
theorem dX2_pass_30 : decode cX2_pass 30 = .ok (.invokevirtual 100, 3) := by decide +kernel
theorem dX2_pass_33 : decode cX2_pass 33 = .ok (.aload_n 0, 1) := by decide +kernel
theorem dX2_pass_34 : decode cX2_pass 34 = .ok (.bipush 6, 2) := by decide +kernel
theorem dX2_pass_36 : decode cX2_pass 36 = .ok (.invokevirtual 81, 3) := by decide +kernel
theorem dX2_pass_39 : decode cX2_pass 39 = .ok (.iload_n 2, 1) := by decide +kernel
theorem dX2_pass_40 : decode cX2_pass 40 = .ok (.isub, 1) := by decide +kernel
theorem dX2_pass_41 : decode cX2_pass 41 = .ok (.ireturn, 1) := by decide +kernel
theorem dX2_kept_0 : decode cX2_kept 0 = .ok (.iconst 3, 1) := by decide +kernel
theorem dX2_kept_1 : decode cX2_kept 1 = .ok (.anewarray 103, 3) := by decide +kernel
theorem dX2_kept_4 : decode cX2_kept 4 = .ok (.dup, 1) := by decide +kernel
theorem dX2_kept_5 : decode cX2_kept 5 = .ok (.iconst 0, 1) := by decide +kernel
theorem dX2_kept_6 : decode cX2_kept 6 = .ok (.aload_n 0, 1) := by decide +kernel
theorem dX2_kept_7 : decode cX2_kept 7 = .ok (.getfield 9, 3) := by decide +kernel
theorem dX2_kept_10 : decode cX2_kept 10 = .ok (.invokevirtual 104, 3) := by decide +kernel
theorem dX2_kept_13 : decode cX2_kept 13 = .ok (.checkcast 103, 3) := by decide +kernel
theorem dX2_kept_16 : decode cX2_kept 16 = .ok (.aastore, 1) := by decide +kernel
theorem dX2_kept_17 : decode cX2_kept 17 = .ok (.dup, 1) := by decide +kernel
theorem dX2_kept_18 : decode cX2_kept 18 = .ok (.iconst 1, 1) := by decide +kernel
theorem dX2_kept_19 : decode cX2_kept 19 = .ok (.aload_n 0, 1) := by decide +kernel
theorem dX2_kept_20 : decode cX2_kept 20 = .ok (.getfield 13, 3) := by decide +kernel
theorem dX2_kept_23 : decode cX2_kept 23 = .ok (.invokevirtual 104, 3) := by decide +kernel
theorem dX2_kept_26 : decode cX2_kept 26 = .ok (.checkcast 103, 3) := by decide +kernel
theorem dX2_kept_29 : decode cX2_kept 29 = .ok (.aastore, 1) := by decide +kernel
theorem dX2_kept_30 : decode cX2_kept 30 = .ok (.dup, 1) := by decide +kernel
theorem dX2_kept_31 : decode cX2_kept 31 = .ok (.iconst 2, 1) := by decide +kernel
theorem dX2_kept_32 : decode cX2_kept 32 = .ok (.aload_n 0, 1) := by decide +kernel
theorem dX2_kept_33 : decode cX2_kept 33 = .ok (.getfield 16, 3) := by decide +kernel
theorem dX2_kept_36 : decode cX2_kept 36 = .ok (.invokevirtual 104, 3) := by decide +kernel
theorem dX2_kept_39 : decode cX2_kept 39 = .ok (.checkcast 103, 3) := by decide +kernel
theorem dX2_kept_42 : decode cX2_kept 42 = .ok (.aastore, 1) := by decide +kernel
theorem dX2_kept_43 : decode cX2_kept 43 = .ok (.areturn, 1) := by decide +kernel
theorem dX2_bringBack_0 : decode cX2_bringBack 0 = .ok (.aload_n 1, 1) := by decide +kernel
theorem dX2_bringBack_1 : decode cX2_bringBack 1 = .ok (.iconst 0, 1) := by decide +kernel
theorem dX2_bringBack_2 : decode cX2_bringBack 2 = .ok (.aaload, 1) := by decide +kernel
theorem dX2_bringBack_3 : decode cX2_bringBack 3 = .ok (.iconst 0, 1) := by decide +kernel
theorem dX2_bringBack_4 : decode cX2_bringBack 4 = .ok (.aload_n 0, 1) := by decide +kernel
theorem dX2_bringBack_5 : decode cX2_bringBack 5 = .ok (.getfield 9, 3) := by decide +kernel
theorem dX2_bringBack_8 : decode cX2_bringBack 8 = .ok (.iconst 0, 1) := by decide +kernel
theorem dX2_bringBack_9 : decode cX2_bringBack 9 = .ok (.aload_n 0, 1) := by decide +kernel
theorem dX2_bringBack_10 : decode cX2_bringBack 10 = .ok (.getfield 9, 3) := by decide +kernel
theorem dX2_bringBack_13 : decode cX2_bringBack 13 = .ok (.arraylength, 1) := by decide +kernel
theorem dX2_bringBack_14 : decode cX2_bringBack 14 = .ok (.invokestatic 37, 3) := by decide +kernel
theorem dX2_bringBack_17 : decode cX2_bringBack 17 = .ok (.aload_n 1, 1) := by decide +kernel
theorem dX2_bringBack_18 : decode cX2_bringBack 18 = .ok (.iconst 1, 1) := by decide +kernel
theorem dX2_bringBack_19 : decode cX2_bringBack 19 = .ok (.aaload, 1) := by decide +kernel
theorem dX2_bringBack_20 : decode cX2_bringBack 20 = .ok (.iconst 0, 1) := by decide +kernel
theorem dX2_bringBack_21 : decode cX2_bringBack 21 = .ok (.aload_n 0, 1) := by decide +kernel
theorem dX2_bringBack_22 : decode cX2_bringBack 22 = .ok (.getfield 13, 3) := by decide +kernel
theorem dX2_bringBack_25 : decode cX2_bringBack 25 = .ok (.iconst 0, 1) := by decide +kernel
theorem dX2_bringBack_26 : decode cX2_bringBack 26 = .ok (.aload_n 0, 1) := by decide +kernel
theorem dX2_bringBack_27 : decode cX2_bringBack 27 = .ok (.getfield 13, 3) := by decide +kernel
theorem dX2_bringBack_30 : decode cX2_bringBack 30 = .ok (.arraylength, 1) := by decide +kernel
theorem dX2_bringBack_31 : decode cX2_bringBack 31 = .ok (.invokestatic 37, 3) := by decide +kernel
theorem dX2_bringBack_34 : decode cX2_bringBack 34 = .ok (.aload_n 0, 1) := by decide +kernel
theorem dX2_bringBack_35 : decode cX2_bringBack 35 = .ok (.getfield 16, 3) := by decide +kernel
theorem dX2_bringBack_38 : decode cX2_bringBack 38 = .ok (.iconst 0, 1) := by decide +kernel
theorem dX2_bringBack_39 : decode cX2_bringBack 39 = .ok (.aload_n 1, 1) := by decide +kernel
theorem dX2_bringBack_40 : decode cX2_bringBack 40 = .ok (.iconst 2, 1) := by decide +kernel
theorem dX2_bringBack_41 : decode cX2_bringBack 41 = .ok (.aaload, 1) := by decide +kernel
theorem dX2_bringBack_42 : decode cX2_bringBack 42 = .ok (.iconst 0, 1) := by decide +kernel
theorem dX2_bringBack_43 : decode cX2_bringBack 43 = .ok (.iaload, 1) := by decide +kernel
theorem dX2_bringBack_44 : decode cX2_bringBack 44 = .ok (.iastore, 1) := by decide +kernel
theorem dX2_bringBack_45 : decode cX2_bringBack 45 = .ok (.return_, 1) := by decide +kernel
set_option maxRecDepth 20000 in
theorem ggX2_foresee_X2_isIn : GoodIn wsX2_foresee wsX2_isIn := goodIn_r _ [5] (by decide +kernel) (by decide +kernel)
set_option maxRecDepth 20000 in
theorem gX2_foresee_X2_isIn : GoodIn wsX2_foresee (va_wsS RX2 26 yX2_isIn wsX2_isIn) := goodIn_app (goodIn_of _ (by decide +kernel)) ggX2_foresee_X2_isIn
set_option maxRecDepth 20000 in
theorem ggX2_foresee_X2_fail : GoodIn wsX2_foresee wsX2_fail := goodIn_r _ [9, 1, 88, 89, 90, 91, 92, 93] (by decide +kernel) (by decide +kernel)
set_option maxRecDepth 20000 in
theorem gX2_foresee_X2_fail : GoodIn wsX2_foresee (wsV RX2 33 RX2 yX2_fail wsX2_fail) := goodIn_app (goodIn_of _ (by decide +kernel)) ggX2_foresee_X2_fail
set_option maxRecDepth 20000 in
theorem ggX2_foresee_X2_kept : GoodIn wsX2_foresee wsX2_kept := goodIn_r _ [13, 14, 15, 16, 17, 18, 19, 20, 21, 22, 88, 89, 90, 91, 92, 93] (by decide +kernel) (by decide +kernel)
set_option maxRecDepth 20000 in
theorem gX2_foresee_X2_kept : GoodIn wsX2_foresee (wsV RX2 108 RX2 yX2_kept wsX2_kept) := goodIn_app (goodIn_of _ (by decide +kernel)) ggX2_foresee_X2_kept
set_option maxRecDepth 20000 in
theorem ggX2_foresee_X2_all : GoodIn wsX2_foresee wsX2_all := goodIn_r _ [26, 27, 28, 29, 30, 4, 31, 15, 88, 89, 90, 91, 92, 93] (by decide +kernel) (by decide +kernel)
set_option maxRecDepth 20000 in
theorem gX2_foresee_X2_all : GoodIn wsX2_foresee (wsV RX2 81 RX2 yX2_all wsX2_all) := goodIn_app (goodIn_of _ (by decide +kernel)) ggX2_foresee_X2_all
set_option maxRecDepth 20000 in
theorem ggX2_foresee_X2_allPipes : GoodIn wsX2_foresee wsX2_allPipes := goodIn_r _ [35, 36, 37, 38, 39, 4, 40, 21, 88, 89, 90, 91, 92, 93] (by decide +kernel) (by decide +kernel)
set_option maxRecDepth 20000 in
theorem gX2_foresee_X2_allPipes : GoodIn wsX2_foresee (wsV RX2 84 RX2 yX2_allPipes wsX2_allPipes) := goodIn_app (goodIn_of _ (by decide +kernel)) ggX2_foresee_X2_allPipes
set_option maxRecDepth 20000 in
theorem ggX2_foresee_X2_daysOn : GoodIn wsX2_foresee wsX2_daysOn := goodIn_r _ [44, 45, 46, 47, 4, 48, 27, 36, 22, 49, 50, 51, 52, 28, 29, 30, 31, 15, 53, 54, 55, 56, 57, 58, 59, 60, 61, 62, 63, 64, 65, 66, 67, 68, 69, 70, 71, 37, 38, 39, 40, 21, 72, 73, 74, 75, 76, 77, 78, 79, 88, 89, 90, 91, 92, 93] (by decide +kernel) (by decide +kernel)
set_option maxRecDepth 20000 in
theorem gX2_foresee_X2_daysOn : GoodIn wsX2_foresee (wsV RX2 100 RX2 yX2_daysOn wsX2_daysOn) := goodIn_app (goodIn_of _ (by decide +kernel)) ggX2_foresee_X2_daysOn
set_option maxRecDepth 20000 in
theorem ggX2_foresee_X2_bringBack : GoodIn wsX2_foresee wsX2_bringBack := goodIn_r _ [83, 15, 84, 85, 86, 87, 21, 22, 88, 89, 90, 91, 92, 93] (by decide +kernel) (by decide +kernel)
set_option maxRecDepth 20000 in
theorem gX2_foresee_X2_bringBack : GoodIn wsX2_foresee (wsV RX2 112 RX2 yX2_bringBack wsX2_bringBack) := goodIn_app (goodIn_of _ (by decide +kernel)) ggX2_foresee_X2_bringBack
theorem dX2_foresee_0 : decode cX2_foresee 0 = .ok (.aload_n 0, 1) := by decide +kernel
theorem dX2_foresee_1 : decode cX2_foresee 1 = .ok (.iconst 0, 1) := by decide +kernel
theorem dX2_foresee_2 : decode cX2_foresee 2 = .ok (.putfield 19, 3) := by decide +kernel
theorem dX2_foresee_5 : decode cX2_foresee 5 = .ok (.iload_n 1, 1) := by decide +kernel
theorem dX2_foresee_6 : decode cX2_foresee 6 = .ok (.iconst 1, 1) := by decide +kernel
theorem dX2_foresee_7 : decode cX2_foresee 7 = .ok (.bipush 100, 2) := by decide +kernel
theorem dX2_foresee_9 : decode cX2_foresee 9 = .ok (.invokestatic 26, 3) := by decide +kernel
theorem dX2_foresee_12 : decode cX2_foresee 12 = .ok (.ifCond .ne 9, 3) := by decide +kernel
theorem dX2_foresee_15 : decode cX2_foresee 15 = .ok (.aload_n 0, 1) := by decide +kernel
theorem dX2_foresee_16 : decode cX2_foresee 16 = .ok (.iconst 1, 1) := by decide +kernel
theorem dX2_foresee_17 : decode cX2_foresee 17 = .ok (.invokevirtual 33, 3) := by decide +kernel
theorem dX2_foresee_20 : decode cX2_foresee 20 = .ok (.ireturn, 1) := by decide +kernel
theorem dX2_foresee_21 : decode cX2_foresee 21 = .ok (.iload_n 2, 1) := by decide +kernel
theorem dX2_foresee_22 : decode cX2_foresee 22 = .ok (.iconst 0, 1) := by decide +kernel
theorem dX2_foresee_23 : decode cX2_foresee 23 = .ok (.iconst 3, 1) := by decide +kernel
theorem dX2_foresee_24 : decode cX2_foresee 24 = .ok (.invokestatic 26, 3) := by decide +kernel
theorem dX2_foresee_27 : decode cX2_foresee 27 = .ok (.ifCond .ne 9, 3) := by decide +kernel
theorem dX2_foresee_30 : decode cX2_foresee 30 = .ok (.aload_n 0, 1) := by decide +kernel
theorem dX2_foresee_31 : decode cX2_foresee 31 = .ok (.iconst 2, 1) := by decide +kernel
theorem dX2_foresee_32 : decode cX2_foresee 32 = .ok (.invokevirtual 33, 3) := by decide +kernel
theorem dX2_foresee_35 : decode cX2_foresee 35 = .ok (.ireturn, 1) := by decide +kernel
theorem dX2_foresee_36 : decode cX2_foresee 36 = .ok (.aload_n 0, 1) := by decide +kernel
theorem dX2_foresee_37 : decode cX2_foresee 37 = .ok (.invokevirtual 108, 3) := by decide +kernel
theorem dX2_foresee_40 : decode cX2_foresee 40 = .ok (.astore_n 3, 1) := by decide +kernel
theorem dX2_foresee_41 : decode cX2_foresee 41 = .ok (.aload_n 0, 1) := by decide +kernel
theorem dX2_foresee_42 : decode cX2_foresee 42 = .ok (.bipush 6, 2) := by decide +kernel
theorem dX2_foresee_44 : decode cX2_foresee 44 = .ok (.invokevirtual 81, 3) := by decide +kernel
theorem dX2_foresee_47 : decode cX2_foresee 47 = .ok (.istore 4, 2) := by decide +kernel
theorem dX2_foresee_49 : decode cX2_foresee 49 = .ok (.aload_n 0, 1) := by decide +kernel
theorem dX2_foresee_50 : decode cX2_foresee 50 = .ok (.bipush 7, 2) := by decide +kernel
theorem dX2_foresee_52 : decode cX2_foresee 52 = .ok (.invokevirtual 84, 3) := by decide +kernel
theorem dX2_foresee_55 : decode cX2_foresee 55 = .ok (.istore 5, 2) := by decide +kernel
theorem dX2_foresee_57 : decode cX2_foresee 57 = .ok (.aload_n 0, 1) := by decide +kernel
theorem dX2_foresee_58 : decode cX2_foresee 58 = .ok (.iload_n 1, 1) := by decide +kernel
theorem dX2_foresee_59 : decode cX2_foresee 59 = .ok (.invokevirtual 100, 3) := by decide +kernel
theorem dX2_foresee_62 : decode cX2_foresee 62 = .ok (.iload_n 2, 1) := by decide +kernel
theorem dX2_foresee_63 : decode cX2_foresee 63 = .ok (.ifCond .ne 15, 3) := by decide +kernel
theorem dX2_foresee_66 : decode cX2_foresee 66 = .ok (.aload_n 0, 1) := by decide +kernel
theorem dX2_foresee_67 : decode cX2_foresee 67 = .ok (.bipush 6, 2) := by decide +kernel
theorem dX2_foresee_69 : decode cX2_foresee 69 = .ok (.invokevirtual 81, 3) := by decide +kernel
theorem dX2_foresee_72 : decode cX2_foresee 72 = .ok (.iload 4, 2) := by decide +kernel
theorem dX2_foresee_74 : decode cX2_foresee 74 = .ok (.isub, 1) := by decide +kernel
theorem dX2_foresee_75 : decode cX2_foresee 75 = .ok (.goto 38, 3) := by decide +kernel
theorem dX2_foresee_78 : decode cX2_foresee 78 = .ok (.iload_n 2, 1) := by decide +kernel
theorem dX2_foresee_79 : decode cX2_foresee 79 = .ok (.iconst 1, 1) := by decide +kernel
theorem dX2_foresee_80 : decode cX2_foresee 80 = .ok (.if_icmp .ne 15, 3) := by decide +kernel
theorem dX2_foresee_83 : decode cX2_foresee 83 = .ok (.aload_n 0, 1) := by decide +kernel
theorem dX2_foresee_84 : decode cX2_foresee 84 = .ok (.bipush 7, 2) := by decide +kernel
theorem dX2_foresee_86 : decode cX2_foresee 86 = .ok (.invokevirtual 84, 3) := by decide +kernel
theorem dX2_foresee_89 : decode cX2_foresee 89 = .ok (.iload 5, 2) := by decide +kernel
theorem dX2_foresee_91 : decode cX2_foresee 91 = .ok (.isub, 1) := by decide +kernel
theorem dX2_foresee_92 : decode cX2_foresee 92 = .ok (.goto 21, 3) := by decide +kernel
theorem dX2_foresee_95 : decode cX2_foresee 95 = .ok (.iload_n 2, 1) := by decide +kernel
theorem dX2_foresee_96 : decode cX2_foresee 96 = .ok (.iconst 2, 1) := by decide +kernel
theorem dX2_foresee_97 : decode cX2_foresee 97 = .ok (.if_icmp .ne 11, 3) := by decide +kernel
theorem dX2_foresee_100 : decode cX2_foresee 100 = .ok (.aload_n 0, 1) := by decide +kernel
theorem dX2_foresee_101 : decode cX2_foresee 101 = .ok (.iconst 3, 1) := by decide +kernel
theorem dX2_foresee_102 : decode cX2_foresee 102 = .ok (.invokevirtual 81, 3) := by decide +kernel
theorem dX2_foresee_105 : decode cX2_foresee 105 = .ok (.goto 8, 3) := by decide +kernel
theorem dX2_foresee_108 : decode cX2_foresee 108 = .ok (.aload_n 0, 1) := by decide +kernel
theorem dX2_foresee_109 : decode cX2_foresee 109 = .ok (.iconst 4, 1) := by decide +kernel
theorem dX2_foresee_110 : decode cX2_foresee 110 = .ok (.invokevirtual 84, 3) := by decide +kernel
theorem dX2_foresee_113 : decode cX2_foresee 113 = .ok (.istore 6, 2) := by decide +kernel
theorem dX2_foresee_115 : decode cX2_foresee 115 = .ok (.aload_n 0, 1) := by decide +kernel
theorem dX2_foresee_116 : decode cX2_foresee 116 = .ok (.aload_n 3, 1) := by decide +kernel
theorem dX2_foresee_117 : decode cX2_foresee 117 = .ok (.invokevirtual 112, 3) := by decide +kernel
theorem dX2_foresee_120 : decode cX2_foresee 120 = .ok (.iload 6, 2) := by decide +kernel
theorem dX2_foresee_122 : decode cX2_foresee 122 = .ok (.ireturn, 1) := by decide +kernel
set_option maxRecDepth 20000 in
theorem ggX2_advise_X2_isIn : GoodIn wsX2_advise wsX2_isIn := goodIn_r _ [6] (by decide +kernel) (by decide +kernel)
set_option maxRecDepth 20000 in
theorem gX2_advise_X2_isIn : GoodIn wsX2_advise (va_wsS RX2 26 yX2_isIn wsX2_isIn) := goodIn_app (goodIn_of _ (by decide +kernel)) ggX2_advise_X2_isIn
set_option maxRecDepth 20000 in
theorem ggX2_advise_X2_fail : GoodIn wsX2_advise wsX2_fail := goodIn_r _ [10, 1, 84, 85, 86, 87, 88, 89] (by decide +kernel) (by decide +kernel)
set_option maxRecDepth 20000 in
theorem gX2_advise_X2_fail : GoodIn wsX2_advise (wsV RX2 33 RX2 yX2_fail wsX2_fail) := goodIn_app (goodIn_of _ (by decide +kernel)) ggX2_advise_X2_fail
set_option maxRecDepth 20000 in
theorem ggX2_advise_X2_kept : GoodIn wsX2_advise wsX2_kept := goodIn_r _ [14, 15, 16, 17, 18, 19, 20, 21, 22, 23, 84, 85, 86, 87, 88, 89] (by decide +kernel) (by decide +kernel)
set_option maxRecDepth 20000 in
theorem gX2_advise_X2_kept : GoodIn wsX2_advise (wsV RX2 108 RX2 yX2_kept wsX2_kept) := goodIn_app (goodIn_of _ (by decide +kernel)) ggX2_advise_X2_kept
set_option maxRecDepth 20000 in
theorem ggX2_advise_X2_daysOn : GoodIn wsX2_advise wsX2_daysOn := goodIn_r _ [27, 28, 29, 30, 5, 31, 32, 2, 23, 33, 34, 35, 36, 37, 38, 39, 40, 16, 41, 42, 43, 44, 45, 46, 47, 48, 49, 50, 51, 52, 53, 54, 55, 56, 57, 58, 59, 60, 61, 62, 63, 22, 64, 65, 66, 67, 68, 69, 70, 71, 84, 85, 86, 87, 88, 89] (by decide +kernel) (by decide +kernel)
set_option maxRecDepth 20000 in
theorem gX2_advise_X2_daysOn : GoodIn wsX2_advise (wsV RX2 100 RX2 yX2_daysOn wsX2_daysOn) := goodIn_app (goodIn_of _ (by decide +kernel)) ggX2_advise_X2_daysOn
set_option maxRecDepth 20000 in
theorem ggX2_advise_X2_all : GoodIn wsX2_advise wsX2_all := goodIn_r _ [75, 32, 37, 38, 39, 5, 40, 16, 84, 85, 86, 87, 88, 89] (by decide +kernel) (by decide +kernel)
set_option maxRecDepth 20000 in
theorem gX2_advise_X2_all : GoodIn wsX2_advise (wsV RX2 81 RX2 yX2_all wsX2_all) := goodIn_app (goodIn_of _ (by decide +kernel)) ggX2_advise_X2_all
set_option maxRecDepth 20000 in
theorem ggX2_advise_X2_bringBack : GoodIn wsX2_advise wsX2_bringBack := goodIn_r _ [79, 16, 80, 81, 82, 83, 22, 23, 84, 85, 86, 87, 88, 89] (by decide +kernel) (by decide +kernel)
set_option maxRecDepth 20000 in
theorem gX2_advise_X2_bringBack : GoodIn wsX2_advise (wsV RX2 112 RX2 yX2_bringBack wsX2_bringBack) := goodIn_app (goodIn_of _ (by decide +kernel)) ggX2_advise_X2_bringBack
set_option maxRecDepth 20000 in
theorem ggX2_advise_X2_setPipe : GoodIn wsX2_advise wsX2_setPipe := goodIn_r _ [71, 22, 84, 85, 86, 87, 88, 89] (by decide +kernel) (by decide +kernel)
set_option maxRecDepth 20000 in
theorem gX2_advise_X2_setPipe : GoodIn wsX2_advise (wsV RX2 61 RX2 yX2_setPipe wsX2_setPipe) := goodIn_app (goodIn_of _ (by decide +kernel)) ggX2_advise_X2_setPipe
theorem dX2_advise_0 : decode cX2_advise 0 = .ok (.aload_n 0, 1) := by decide +kernel
theorem dX2_advise_1 : decode cX2_advise 1 = .ok (.iconst 0, 1) := by decide +kernel
theorem dX2_advise_2 : decode cX2_advise 2 = .ok (.putfield 19, 3) := by decide +kernel
theorem dX2_advise_5 : decode cX2_advise 5 = .ok (.iload_n 1, 1) := by decide +kernel
theorem dX2_advise_6 : decode cX2_advise 6 = .ok (.iconst 1, 1) := by decide +kernel
theorem dX2_advise_7 : decode cX2_advise 7 = .ok (.bipush 60, 2) := by decide +kernel
theorem dX2_advise_9 : decode cX2_advise 9 = .ok (.invokestatic 26, 3) := by decide +kernel
theorem dX2_advise_12 : decode cX2_advise 12 = .ok (.ifCond .ne 9, 3) := by decide +kernel
theorem dX2_advise_15 : decode cX2_advise 15 = .ok (.aload_n 0, 1) := by decide +kernel
theorem dX2_advise_16 : decode cX2_advise 16 = .ok (.iconst 1, 1) := by decide +kernel
theorem dX2_advise_17 : decode cX2_advise 17 = .ok (.invokevirtual 33, 3) := by decide +kernel
theorem dX2_advise_20 : decode cX2_advise 20 = .ok (.ireturn, 1) := by decide +kernel
theorem dX2_advise_21 : decode cX2_advise 21 = .ok (.aload_n 0, 1) := by decide +kernel
theorem dX2_advise_22 : decode cX2_advise 22 = .ok (.invokevirtual 108, 3) := by decide +kernel
theorem dX2_advise_25 : decode cX2_advise 25 = .ok (.astore_n 2, 1) := by decide +kernel
theorem dX2_advise_26 : decode cX2_advise 26 = .ok (.aload_n 0, 1) := by decide +kernel
theorem dX2_advise_27 : decode cX2_advise 27 = .ok (.iload_n 1, 1) := by decide +kernel
theorem dX2_advise_28 : decode cX2_advise 28 = .ok (.invokevirtual 100, 3) := by decide +kernel
theorem dX2_advise_31 : decode cX2_advise 31 = .ok (.iconst (-1), 1) := by decide +kernel
theorem dX2_advise_32 : decode cX2_advise 32 = .ok (.istore_n 3, 1) := by decide +kernel
theorem dX2_advise_33 : decode cX2_advise 33 = .ok (.aload_n 0, 1) := by decide +kernel
theorem dX2_advise_34 : decode cX2_advise 34 = .ok (.bipush 6, 2) := by decide +kernel
theorem dX2_advise_36 : decode cX2_advise 36 = .ok (.invokevirtual 81, 3) := by decide +kernel
theorem dX2_advise_39 : decode cX2_advise 39 = .ok (.istore 4, 2) := by decide +kernel
theorem dX2_advise_41 : decode cX2_advise 41 = .ok (.aload_n 0, 1) := by decide +kernel
theorem dX2_advise_42 : decode cX2_advise 42 = .ok (.aload_n 2, 1) := by decide +kernel
theorem dX2_advise_43 : decode cX2_advise 43 = .ok (.invokevirtual 112, 3) := by decide +kernel
theorem dX2_advise_46 : decode cX2_advise 46 = .ok (.iconst 0, 1) := by decide +kernel
theorem dX2_advise_47 : decode cX2_advise 47 = .ok (.istore 5, 2) := by decide +kernel
theorem dX2_advise_49 : decode cX2_advise 49 = .ok (.iload 5, 2) := by decide +kernel
theorem dX2_advise_51 : decode cX2_advise 51 = .ok (.aload_n 0, 1) := by decide +kernel
theorem dX2_advise_52 : decode cX2_advise 52 = .ok (.getfield 30, 3) := by decide +kernel
theorem dX2_advise_55 : decode cX2_advise 55 = .ok (.if_icmp .ge 52, 3) := by decide +kernel
theorem dX2_advise_58 : decode cX2_advise 58 = .ok (.aload_n 0, 1) := by decide +kernel
theorem dX2_advise_59 : decode cX2_advise 59 = .ok (.iload 5, 2) := by decide +kernel
theorem dX2_advise_61 : decode cX2_advise 61 = .ok (.iconst 4, 1) := by decide +kernel
theorem dX2_advise_62 : decode cX2_advise 62 = .ok (.iconst 0, 1) := by decide +kernel
theorem dX2_advise_63 : decode cX2_advise 63 = .ok (.invokevirtual 61, 3) := by decide +kernel
theorem dX2_advise_66 : decode cX2_advise 66 = .ok (.aload_n 0, 1) := by decide +kernel
theorem dX2_advise_67 : decode cX2_advise 67 = .ok (.iload_n 1, 1) := by decide +kernel
theorem dX2_advise_68 : decode cX2_advise 68 = .ok (.invokevirtual 100, 3) := by decide +kernel
theorem dX2_advise_71 : decode cX2_advise 71 = .ok (.aload_n 0, 1) := by decide +kernel
theorem dX2_advise_72 : decode cX2_advise 72 = .ok (.bipush 6, 2) := by decide +kernel
theorem dX2_advise_74 : decode cX2_advise 74 = .ok (.invokevirtual 81, 3) := by decide +kernel
theorem dX2_advise_77 : decode cX2_advise 77 = .ok (.istore 6, 2) := by decide +kernel
theorem dX2_advise_79 : decode cX2_advise 79 = .ok (.aload_n 0, 1) := by decide +kernel
theorem dX2_advise_80 : decode cX2_advise 80 = .ok (.aload_n 2, 1) := by decide +kernel
theorem dX2_advise_81 : decode cX2_advise 81 = .ok (.invokevirtual 112, 3) := by decide +kernel
theorem dX2_advise_84 : decode cX2_advise 84 = .ok (.iload 6, 2) := by decide +kernel
theorem dX2_advise_86 : decode cX2_advise 86 = .ok (.iload 4, 2) := by decide +kernel
theorem dX2_advise_88 : decode cX2_advise 88 = .ok (.if_icmp .gt 6, 3) := by decide +kernel
theorem dX2_advise_91 : decode cX2_advise 91 = .ok (.goto 10, 3) := by decide +kernel
theorem dX2_advise_94 : decode cX2_advise 94 = .ok (.iload 5, 2) := by decide +kernel
theorem dX2_advise_96 : decode cX2_advise 96 = .ok (.istore_n 3, 1) := by decide +kernel
theorem dX2_advise_97 : decode cX2_advise 97 = .ok (.iload 6, 2) := by decide +kernel
theorem dX2_advise_99 : decode cX2_advise 99 = .ok (.istore 4, 2) := by decide +kernel
theorem dX2_advise_101 : decode cX2_advise 101 = .ok (.iinc 5 1, 3) := by decide +kernel
theorem dX2_advise_104 : decode cX2_advise 104 = .ok (.goto (-55), 3) := by decide +kernel
theorem dX2_advise_107 : decode cX2_advise 107 = .ok (.iload_n 3, 1) := by decide +kernel
theorem dX2_advise_108 : decode cX2_advise 108 = .ok (.ireturn, 1) := by decide +kernel
set_option maxRecDepth 20000 in
theorem ggX2_sated_X2_isTank : GoodIn wsX2_sated wsX2_isTank := goodIn_r _ [6, 7, 8, 9, 5, 10, 80, 81, 82, 83, 84, 85] (by decide +kernel) (by decide +kernel)
set_option maxRecDepth 20000 in
theorem gX2_sated_X2_isTank : GoodIn wsX2_sated (wsV RX2 43 RX2 yX2_isTank wsX2_isTank) := goodIn_app (goodIn_of _ (by decide +kernel)) ggX2_sated_X2_isTank
set_option maxRecDepth 20000 in
theorem ggX2_sated_X2_fail : GoodIn wsX2_sated wsX2_fail := goodIn_r _ [14, 1, 80, 81, 82, 83, 84, 85] (by decide +kernel) (by decide +kernel)
set_option maxRecDepth 20000 in
theorem gX2_sated_X2_fail : GoodIn wsX2_sated (wsV RX2 33 RX2 yX2_fail wsX2_fail) := goodIn_app (goodIn_of _ (by decide +kernel)) ggX2_sated_X2_fail
set_option maxRecDepth 20000 in
theorem ggX2_sated_X2_kept : GoodIn wsX2_sated wsX2_kept := goodIn_r _ [18, 19, 20, 21, 22, 23, 24, 25, 26, 27, 80, 81, 82, 83, 84, 85] (by decide +kernel) (by decide +kernel)
set_option maxRecDepth 20000 in
theorem gX2_sated_X2_kept : GoodIn wsX2_sated (wsV RX2 108 RX2 yX2_kept wsX2_kept) := goodIn_app (goodIn_of _ (by decide +kernel)) ggX2_sated_X2_kept
set_option maxRecDepth 20000 in
theorem ggX2_sated_X2_dayOn : GoodIn wsX2_sated wsX2_dayOn := goodIn_r _ [31, 7, 32, 27, 33, 34, 35, 36, 37, 38, 39, 5, 40, 20, 41, 42, 43, 44, 45, 46, 47, 48, 49, 50, 51, 52, 53, 54, 55, 56, 57, 58, 59, 60, 61, 62, 63, 26, 64, 65, 66, 67, 68, 69, 70, 71, 80, 81, 82, 83, 84, 85] (by decide +kernel) (by decide +kernel)
set_option maxRecDepth 20000 in
theorem gX2_sated_X2_dayOn : GoodIn wsX2_sated (wsV RX2 97 RX2 yX2_dayOn wsX2_dayOn) := goodIn_app (goodIn_of _ (by decide +kernel)) ggX2_sated_X2_dayOn
set_option maxRecDepth 20000 in
theorem ggX2_sated_X2_la : GoodIn wsX2_sated wsX2_la := goodIn_r _ [40, 20, 80, 81, 82, 83, 84, 85] (by decide +kernel) (by decide +kernel)
set_option maxRecDepth 20000 in
theorem gX2_sated_X2_la : GoodIn wsX2_sated (wsV RX2 47 RX2 yX2_la wsX2_la) := goodIn_app (goodIn_of _ (by decide +kernel)) ggX2_sated_X2_la
set_option maxRecDepth 20000 in
theorem ggX2_sated_X2_bringBack : GoodIn wsX2_sated wsX2_bringBack := goodIn_r _ [75, 20, 76, 77, 78, 79, 26, 27, 80, 81, 82, 83, 84, 85] (by decide +kernel) (by decide +kernel)
set_option maxRecDepth 20000 in
theorem gX2_sated_X2_bringBack : GoodIn wsX2_sated (wsV RX2 112 RX2 yX2_bringBack wsX2_bringBack) := goodIn_app (goodIn_of _ (by decide +kernel)) ggX2_sated_X2_bringBack
theorem dX2_sated_0 : decode cX2_sated 0 = .ok (.aload_n 0, 1) := by decide +kernel
theorem dX2_sated_1 : decode cX2_sated 1 = .ok (.iconst 0, 1) := by decide +kernel
theorem dX2_sated_2 : decode cX2_sated 2 = .ok (.putfield 19, 3) := by decide +kernel
theorem dX2_sated_5 : decode cX2_sated 5 = .ok (.aload_n 0, 1) := by decide +kernel
theorem dX2_sated_6 : decode cX2_sated 6 = .ok (.iload_n 1, 1) := by decide +kernel
theorem dX2_sated_7 : decode cX2_sated 7 = .ok (.invokevirtual 43, 3) := by decide +kernel
theorem dX2_sated_10 : decode cX2_sated 10 = .ok (.ifCond .ne 9, 3) := by decide +kernel
theorem dX2_sated_13 : decode cX2_sated 13 = .ok (.aload_n 0, 1) := by decide +kernel
theorem dX2_sated_14 : decode cX2_sated 14 = .ok (.iconst 1, 1) := by decide +kernel
theorem dX2_sated_15 : decode cX2_sated 15 = .ok (.invokevirtual 33, 3) := by decide +kernel
theorem dX2_sated_18 : decode cX2_sated 18 = .ok (.ireturn, 1) := by decide +kernel
theorem dX2_sated_19 : decode cX2_sated 19 = .ok (.aload_n 0, 1) := by decide +kernel
theorem dX2_sated_20 : decode cX2_sated 20 = .ok (.invokevirtual 108, 3) := by decide +kernel
theorem dX2_sated_23 : decode cX2_sated 23 = .ok (.astore_n 2, 1) := by decide +kernel
theorem dX2_sated_24 : decode cX2_sated 24 = .ok (.iconst (-1), 1) := by decide +kernel
theorem dX2_sated_25 : decode cX2_sated 25 = .ok (.istore_n 3, 1) := by decide +kernel
theorem dX2_sated_26 : decode cX2_sated 26 = .ok (.iconst 1, 1) := by decide +kernel
theorem dX2_sated_27 : decode cX2_sated 27 = .ok (.istore 4, 2) := by decide +kernel
theorem dX2_sated_29 : decode cX2_sated 29 = .ok (.iload 4, 2) := by decide +kernel
theorem dX2_sated_31 : decode cX2_sated 31 = .ok (.bipush 100, 2) := by decide +kernel
theorem dX2_sated_33 : decode cX2_sated 33 = .ok (.if_icmp .gt 36, 3) := by decide +kernel
theorem dX2_sated_36 : decode cX2_sated 36 = .ok (.iload_n 3, 1) := by decide +kernel
theorem dX2_sated_37 : decode cX2_sated 37 = .ok (.iconst (-1), 1) := by decide +kernel
theorem dX2_sated_38 : decode cX2_sated 38 = .ok (.if_icmp .ne 31, 3) := by decide +kernel
theorem dX2_sated_41 : decode cX2_sated 41 = .ok (.aload_n 0, 1) := by decide +kernel
theorem dX2_sated_42 : decode cX2_sated 42 = .ok (.invokevirtual 97, 3) := by decide +kernel
theorem dX2_sated_45 : decode cX2_sated 45 = .ok (.aload_n 0, 1) := by decide +kernel
theorem dX2_sated_46 : decode cX2_sated 46 = .ok (.iload_n 1, 1) := by decide +kernel
theorem dX2_sated_47 : decode cX2_sated 47 = .ok (.iconst 5, 1) := by decide +kernel
theorem dX2_sated_48 : decode cX2_sated 48 = .ok (.invokevirtual 47, 3) := by decide +kernel
theorem dX2_sated_51 : decode cX2_sated 51 = .ok (.aload_n 0, 1) := by decide +kernel
theorem dX2_sated_52 : decode cX2_sated 52 = .ok (.iload_n 1, 1) := by decide +kernel
theorem dX2_sated_53 : decode cX2_sated 53 = .ok (.iconst 2, 1) := by decide +kernel
theorem dX2_sated_54 : decode cX2_sated 54 = .ok (.invokevirtual 47, 3) := by decide +kernel
theorem dX2_sated_57 : decode cX2_sated 57 = .ok (.if_icmp .ne 6, 3) := by decide +kernel
theorem dX2_sated_60 : decode cX2_sated 60 = .ok (.iload 4, 2) := by decide +kernel
theorem dX2_sated_62 : decode cX2_sated 62 = .ok (.istore_n 3, 1) := by decide +kernel
theorem dX2_sated_63 : decode cX2_sated 63 = .ok (.iinc 4 1, 3) := by decide +kernel
theorem dX2_sated_66 : decode cX2_sated 66 = .ok (.goto (-37), 3) := by decide +kernel
theorem dX2_sated_69 : decode cX2_sated 69 = .ok (.aload_n 0, 1) := by decide +kernel
theorem dX2_sated_70 : decode cX2_sated 70 = .ok (.aload_n 2, 1) := by decide +kernel
theorem dX2_sated_71 : decode cX2_sated 71 = .ok (.invokevirtual 112, 3) := by decide +kernel
theorem dX2_sated_74 : decode cX2_sated 74 = .ok (.iload_n 3, 1) := by decide +kernel
theorem dX2_sated_75 : decode cX2_sated 75 = .ok (.ireturn, 1) := by decide +kernel
set_option maxRecDepth 20000 in
theorem ggX2_mean_X2_all : GoodIn wsX2_mean wsX2_all := goodIn_r _ [7, 8, 9, 10, 11, 6, 12, 13, 14, 15, 16, 17, 18, 19] (by decide +kernel) (by decide +kernel)
set_option maxRecDepth 20000 in
theorem gX2_mean_X2_all : GoodIn wsX2_mean (wsV RX2 81 RX2 yX2_all wsX2_all) := goodIn_app (goodIn_of _ (by decide +kernel)) ggX2_mean_X2_all
theorem dX2_mean_0 : decode cX2_mean 0 = .ok (.aload_n 0, 1) := by decide +kernel
theorem dX2_mean_1 : decode cX2_mean 1 = .ok (.iconst 0, 1) := by decide +kernel
theorem dX2_mean_2 : decode cX2_mean 2 = .ok (.putfield 19, 3) := by decide +kernel
theorem dX2_mean_5 : decode cX2_mean 5 = .ok (.aload_n 0, 1) := by decide +kernel
theorem dX2_mean_6 : decode cX2_mean 6 = .ok (.getfield 16, 3) := by decide +kernel
theorem dX2_mean_9 : decode cX2_mean 9 = .ok (.iconst 0, 1) := by decide +kernel
theorem dX2_mean_10 : decode cX2_mean 10 = .ok (.iaload, 1) := by decide +kernel
theorem dX2_mean_11 : decode cX2_mean 11 = .ok (.ifCond .ne 7, 3) := by decide +kernel
theorem dX2_mean_14 : decode cX2_mean 14 = .ok (.dconst 0, 1) := by decide +kernel
theorem dX2_mean_15 : decode cX2_mean 15 = .ok (.goto 18, 3) := by decide +kernel
theorem dX2_mean_18 : decode cX2_mean 18 = .ok (.aload_n 0, 1) := by decide +kernel
theorem dX2_mean_19 : decode cX2_mean 19 = .ok (.bipush 6, 2) := by decide +kernel
theorem dX2_mean_21 : decode cX2_mean 21 = .ok (.invokevirtual 81, 3) := by decide +kernel
theorem dX2_mean_24 : decode cX2_mean 24 = .ok (.i2d, 1) := by decide +kernel
theorem dX2_mean_25 : decode cX2_mean 25 = .ok (.aload_n 0, 1) := by decide +kernel
theorem dX2_mean_26 : decode cX2_mean 26 = .ok (.getfield 16, 3) := by decide +kernel
theorem dX2_mean_29 : decode cX2_mean 29 = .ok (.iconst 0, 1) := by decide +kernel
theorem dX2_mean_30 : decode cX2_mean 30 = .ok (.iaload, 1) := by decide +kernel
theorem dX2_mean_31 : decode cX2_mean 31 = .ok (.i2d, 1) := by decide +kernel
theorem dX2_mean_32 : decode cX2_mean 32 = .ok (.ddiv, 1) := by decide +kernel
theorem dX2_mean_33 : decode cX2_mean 33 = .ok (.dreturn, 1) := by decide +kernel
set_option maxRecDepth 20000 in
theorem ggX2_digest_X2_counted : GoodIn wsX2_digest wsX2_counted := goodIn_r _ [10, 11, 4, 5, 12, 13, 14, 9, 15, 16, 17, 18, 19, 20, 21, 22, 23, 24, 25, 26, 27, 28, 29, 49, 50, 51, 52, 53, 54] (by decide +kernel) (by decide +kernel)
set_option maxRecDepth 20000 in
theorem gX2_digest_X2_counted : GoodIn wsX2_digest (wsV RX2 87 RX2 yX2_counted wsX2_counted) := goodIn_app (goodIn_of _ (by decide +kernel)) ggX2_digest_X2_counted
set_option maxRecDepth 20000 in
theorem ggX2_digest_X2_la : GoodIn wsX2_digest wsX2_la := goodIn_r _ [19, 20, 49, 50, 51, 52, 53, 54] (by decide +kernel) (by decide +kernel)
set_option maxRecDepth 20000 in
theorem gX2_digest_X2_la : GoodIn wsX2_digest (wsV RX2 47 RX2 yX2_la wsX2_la) := goodIn_app (goodIn_of _ (by decide +kernel)) ggX2_digest_X2_la
set_option maxRecDepth 20000 in
theorem ggX2_digest_X2_pipeTold : GoodIn wsX2_digest wsX2_pipeTold := goodIn_r _ [33, 34, 35, 36, 9, 37, 38, 39, 40, 41, 42, 43, 44, 25, 26, 27, 28, 29, 45, 46, 47, 48, 16, 17, 18, 19, 20, 49, 50, 51, 52, 53, 54] (by decide +kernel) (by decide +kernel)
set_option maxRecDepth 20000 in
theorem gX2_digest_X2_pipeTold : GoodIn wsX2_digest (wsV RX2 78 RX2 yX2_pipeTold wsX2_pipeTold) := goodIn_app (goodIn_of _ (by decide +kernel)) ggX2_digest_X2_pipeTold
set_option maxRecDepth 20000 in
theorem ggX2_digest_X2_li : GoodIn wsX2_digest wsX2_li := goodIn_r _ [28, 29, 49, 50, 51, 52, 53, 54] (by decide +kernel) (by decide +kernel)
set_option maxRecDepth 20000 in
theorem gX2_digest_X2_li : GoodIn wsX2_digest (wsV RX2 58 RX2 yX2_li wsX2_li) := goodIn_app (goodIn_of _ (by decide +kernel)) ggX2_digest_X2_li
theorem dX2_digest_0 : decode cX2_digest 0 = .ok (.aload_n 0, 1) := by decide +kernel
theorem dX2_digest_1 : decode cX2_digest 1 = .ok (.iconst 0, 1) := by decide +kernel
theorem dX2_digest_2 : decode cX2_digest 2 = .ok (.putfield 19, 3) := by decide +kernel
theorem dX2_digest_5 : decode cX2_digest 5 = .ok (.ldc2_w 116, 3) := by decide +kernel
theorem dX2_digest_8 : decode cX2_digest 8 = .ok (.lstore_n 1, 1) := by decide +kernel
theorem dX2_digest_9 : decode cX2_digest 9 = .ok (.iconst 0, 1) := by decide +kernel
theorem dX2_digest_10 : decode cX2_digest 10 = .ok (.istore_n 3, 1) := by decide +kernel
theorem dX2_digest_11 : decode cX2_digest 11 = .ok (.iload_n 3, 1) := by decide +kernel
theorem dX2_digest_12 : decode cX2_digest 12 = .ok (.bipush 9, 2) := by decide +kernel
theorem dX2_digest_14 : decode cX2_digest 14 = .ok (.if_icmp .ge 22, 3) := by decide +kernel
theorem dX2_digest_17 : decode cX2_digest 17 = .ok (.lload_n 1, 1) := by decide +kernel
theorem dX2_digest_18 : decode cX2_digest 18 = .ok (.ldc2_w 118, 3) := by decide +kernel
theorem dX2_digest_21 : decode cX2_digest 21 = .ok (.lmul, 1) := by decide +kernel
theorem dX2_digest_22 : decode cX2_digest 22 = .ok (.aload_n 0, 1) := by decide +kernel
theorem dX2_digest_23 : decode cX2_digest 23 = .ok (.iload_n 3, 1) := by decide +kernel
theorem dX2_digest_24 : decode cX2_digest 24 = .ok (.invokevirtual 87, 3) := by decide +kernel
theorem dX2_digest_27 : decode cX2_digest 27 = .ok (.i2l, 1) := by decide +kernel
theorem dX2_digest_28 : decode cX2_digest 28 = .ok (.ladd, 1) := by decide +kernel
theorem dX2_digest_29 : decode cX2_digest 29 = .ok (.lstore_n 1, 1) := by decide +kernel
theorem dX2_digest_30 : decode cX2_digest 30 = .ok (.iinc 3 1, 3) := by decide +kernel
theorem dX2_digest_33 : decode cX2_digest 33 = .ok (.goto (-22), 3) := by decide +kernel
theorem dX2_digest_36 : decode cX2_digest 36 = .ok (.iconst 0, 1) := by decide +kernel
theorem dX2_digest_37 : decode cX2_digest 37 = .ok (.istore_n 3, 1) := by decide +kernel
theorem dX2_digest_38 : decode cX2_digest 38 = .ok (.iload_n 3, 1) := by decide +kernel
theorem dX2_digest_39 : decode cX2_digest 39 = .ok (.aload_n 0, 1) := by decide +kernel
theorem dX2_digest_40 : decode cX2_digest 40 = .ok (.getfield 23, 3) := by decide +kernel
theorem dX2_digest_43 : decode cX2_digest 43 = .ok (.if_icmp .ge 40, 3) := by decide +kernel
theorem dX2_digest_46 : decode cX2_digest 46 = .ok (.iconst 0, 1) := by decide +kernel
theorem dX2_digest_47 : decode cX2_digest 47 = .ok (.istore 4, 2) := by decide +kernel
theorem dX2_digest_49 : decode cX2_digest 49 = .ok (.iload 4, 2) := by decide +kernel
theorem dX2_digest_51 : decode cX2_digest 51 = .ok (.bipush 8, 2) := by decide +kernel
theorem dX2_digest_53 : decode cX2_digest 53 = .ok (.if_icmp .ge 24, 3) := by decide +kernel
theorem dX2_digest_56 : decode cX2_digest 56 = .ok (.lload_n 1, 1) := by decide +kernel
theorem dX2_digest_57 : decode cX2_digest 57 = .ok (.ldc2_w 118, 3) := by decide +kernel
theorem dX2_digest_60 : decode cX2_digest 60 = .ok (.lmul, 1) := by decide +kernel
theorem dX2_digest_61 : decode cX2_digest 61 = .ok (.aload_n 0, 1) := by decide +kernel
theorem dX2_digest_62 : decode cX2_digest 62 = .ok (.iload_n 3, 1) := by decide +kernel
theorem dX2_digest_63 : decode cX2_digest 63 = .ok (.iload 4, 2) := by decide +kernel
theorem dX2_digest_65 : decode cX2_digest 65 = .ok (.invokevirtual 47, 3) := by decide +kernel
theorem dX2_digest_68 : decode cX2_digest 68 = .ok (.i2l, 1) := by decide +kernel
theorem dX2_digest_69 : decode cX2_digest 69 = .ok (.ladd, 1) := by decide +kernel
theorem dX2_digest_70 : decode cX2_digest 70 = .ok (.lstore_n 1, 1) := by decide +kernel
theorem dX2_digest_71 : decode cX2_digest 71 = .ok (.iinc 4 1, 3) := by decide +kernel
theorem dX2_digest_74 : decode cX2_digest 74 = .ok (.goto (-25), 3) := by decide +kernel
theorem dX2_digest_77 : decode cX2_digest 77 = .ok (.iinc 3 1, 3) := by decide +kernel
theorem dX2_digest_80 : decode cX2_digest 80 = .ok (.goto (-42), 3) := by decide +kernel
theorem dX2_digest_83 : decode cX2_digest 83 = .ok (.iconst 0, 1) := by decide +kernel
theorem dX2_digest_84 : decode cX2_digest 84 = .ok (.istore_n 3, 1) := by decide +kernel
theorem dX2_digest_85 : decode cX2_digest 85 = .ok (.iload_n 3, 1) := by decide +kernel
theorem dX2_digest_86 : decode cX2_digest 86 = .ok (.aload_n 0, 1) := by decide +kernel
theorem dX2_digest_87 : decode cX2_digest 87 = .ok (.getfield 30, 3) := by decide +kernel
theorem dX2_digest_90 : decode cX2_digest 90 = .ok (.if_icmp .ge 55, 3) := by decide +kernel
theorem dX2_digest_93 : decode cX2_digest 93 = .ok (.iconst 0, 1) := by decide +kernel
theorem dX2_digest_94 : decode cX2_digest 94 = .ok (.istore 4, 2) := by decide +kernel
theorem dX2_digest_96 : decode cX2_digest 96 = .ok (.iload 4, 2) := by decide +kernel
theorem dX2_digest_98 : decode cX2_digest 98 = .ok (.bipush 9, 2) := by decide +kernel
theorem dX2_digest_100 : decode cX2_digest 100 = .ok (.if_icmp .ge 24, 3) := by decide +kernel
theorem dX2_digest_103 : decode cX2_digest 103 = .ok (.lload_n 1, 1) := by decide +kernel
theorem dX2_digest_104 : decode cX2_digest 104 = .ok (.ldc2_w 118, 3) := by decide +kernel
theorem dX2_digest_107 : decode cX2_digest 107 = .ok (.lmul, 1) := by decide +kernel
theorem dX2_digest_108 : decode cX2_digest 108 = .ok (.aload_n 0, 1) := by decide +kernel
theorem dX2_digest_109 : decode cX2_digest 109 = .ok (.iload_n 3, 1) := by decide +kernel
theorem dX2_digest_110 : decode cX2_digest 110 = .ok (.iload 4, 2) := by decide +kernel
theorem dX2_digest_112 : decode cX2_digest 112 = .ok (.invokevirtual 78, 3) := by decide +kernel
theorem dX2_digest_115 : decode cX2_digest 115 = .ok (.i2l, 1) := by decide +kernel
theorem dX2_digest_116 : decode cX2_digest 116 = .ok (.ladd, 1) := by decide +kernel
theorem dX2_digest_117 : decode cX2_digest 117 = .ok (.lstore_n 1, 1) := by decide +kernel
theorem dX2_digest_118 : decode cX2_digest 118 = .ok (.iinc 4 1, 3) := by decide +kernel
theorem dX2_digest_121 : decode cX2_digest 121 = .ok (.goto (-25), 3) := by decide +kernel
theorem dX2_digest_124 : decode cX2_digest 124 = .ok (.lload_n 1, 1) := by decide +kernel
theorem dX2_digest_125 : decode cX2_digest 125 = .ok (.ldc2_w 118, 3) := by decide +kernel
theorem dX2_digest_128 : decode cX2_digest 128 = .ok (.lmul, 1) := by decide +kernel
theorem dX2_digest_129 : decode cX2_digest 129 = .ok (.aload_n 0, 1) := by decide +kernel
theorem dX2_digest_130 : decode cX2_digest 130 = .ok (.iload_n 3, 1) := by decide +kernel
theorem dX2_digest_131 : decode cX2_digest 131 = .ok (.bipush 8, 2) := by decide +kernel
theorem dX2_digest_133 : decode cX2_digest 133 = .ok (.invokevirtual 58, 3) := by decide +kernel
theorem dX2_digest_136 : decode cX2_digest 136 = .ok (.i2l, 1) := by decide +kernel
theorem dX2_digest_137 : decode cX2_digest 137 = .ok (.ladd, 1) := by decide +kernel
theorem dX2_digest_138 : decode cX2_digest 138 = .ok (.lstore_n 1, 1) := by decide +kernel
theorem dX2_digest_139 : decode cX2_digest 139 = .ok (.iinc 3 1, 3) := by decide +kernel
theorem dX2_digest_142 : decode cX2_digest 142 = .ok (.goto (-57), 3) := by decide +kernel
theorem dX2_digest_145 : decode cX2_digest 145 = .ok (.lload_n 1, 1) := by decide +kernel
theorem dX2_digest_146 : decode cX2_digest 146 = .ok (.lreturn, 1) := by decide +kernel
theorem dJ9_max_7cf53_0 : decode cJ9_max_7cf53 0 = .ok (.iload_n 0, 1) := by decide +kernel
theorem dJ9_max_7cf53_1 : decode cJ9_max_7cf53 1 = .ok (.iload_n 1, 1) := by decide +kernel
theorem dJ9_max_7cf53_2 : decode cJ9_max_7cf53 2 = .ok (.if_icmp .lt 7, 3) := by decide +kernel
theorem dJ9_max_7cf53_5 : decode cJ9_max_7cf53 5 = .ok (.iload_n 0, 1) := by decide +kernel
theorem dJ9_max_7cf53_6 : decode cJ9_max_7cf53 6 = .ok (.goto 4, 3) := by decide +kernel
theorem dJ9_max_7cf53_9 : decode cJ9_max_7cf53 9 = .ok (.iload_n 1, 1) := by decide +kernel
theorem dJ9_max_7cf53_10 : decode cJ9_max_7cf53 10 = .ok (.ireturn, 1) := by decide +kernel
theorem dJ9_min_7cf53_0 : decode cJ9_min_7cf53 0 = .ok (.iload_n 0, 1) := by decide +kernel
theorem dJ9_min_7cf53_1 : decode cJ9_min_7cf53 1 = .ok (.iload_n 1, 1) := by decide +kernel
theorem dJ9_min_7cf53_2 : decode cJ9_min_7cf53 2 = .ok (.if_icmp .gt 7, 3) := by decide +kernel
theorem dJ9_min_7cf53_5 : decode cJ9_min_7cf53 5 = .ok (.iload_n 0, 1) := by decide +kernel
theorem dJ9_min_7cf53_6 : decode cJ9_min_7cf53 6 = .ok (.goto 4, 3) := by decide +kernel
theorem dJ9_min_7cf53_9 : decode cJ9_min_7cf53 9 = .ok (.iload_n 1, 1) := by decide +kernel
theorem dJ9_min_7cf53_10 : decode cJ9_min_7cf53 10 = .ok (.ireturn, 1) := by decide +kernel
set_option maxRecDepth 20000 in
theorem ggL_build_X1_build : GoodIn wsL_build wsX1_build := goodIn_ca (goodIn_ca (goodIn_r _ [7, 8, 9, 10, 11, 12, 6, 13, 14, 15, 16, 17, 18, 19, 20, 21, 22, 23, 24, 25, 26, 27, 28, 29, 30, 31, 32, 33, 34, 35] (by decide +kernel) (by decide +kernel)) (goodIn_sub (fun _ h => List.mem_cons_of_mem _ (List.mem_append_left _ (List.mem_append_right _ h))) (by decide +kernel))) (goodIn_sub (fun _ h => List.mem_cons_of_mem _ (List.mem_append_right _ h)) (by decide +kernel))
set_option maxRecDepth 20000 in
theorem gL_build_X1_build : GoodIn wsL_build (wsV RL 7 RX1 yX1_build wsX1_build) := goodIn_app (goodIn_of _ (by decide +kernel)) ggL_build_X1_build

theorem dX2_init_0 : decode cX2_init 0 = .ok (.aload_n 0, 1) := by decide +kernel
theorem dX2_init_1 : decode cX2_init 1 = .ok (.invokespecial 1, 3) := by decide +kernel
theorem dX2_init_4 : decode cX2_init 4 = .ok (.return_, 1) := by decide +kernel
theorem dX3_init_0 : decode cX3_init 0 = .ok (.aload_n 0, 1) := by decide +kernel
theorem dX3_init_1 : decode cX3_init 1 = .ok (.invokespecial 1, 3) := by decide +kernel
theorem dX3_init_4 : decode cX3_init 4 = .ok (.aload_n 0, 1) := by decide +kernel
theorem dX3_init_5 : decode cX3_init 5 = .ok (.iconst 0, 1) := by decide +kernel
theorem dX3_init_6 : decode cX3_init 6 = .ok (.anewarray 7, 3) := by decide +kernel
theorem dX3_init_9 : decode cX3_init 9 = .ok (.putfield 9, 3) := by decide +kernel
theorem dX3_init_12 : decode cX3_init 12 = .ok (.aload_n 0, 1) := by decide +kernel
theorem dX3_init_13 : decode cX3_init 13 = .ok (.iconst 0, 1) := by decide +kernel
theorem dX3_init_14 : decode cX3_init 14 = .ok (.anewarray 15, 3) := by decide +kernel
theorem dX3_init_17 : decode cX3_init 17 = .ok (.putfield 17, 3) := by decide +kernel
theorem dX3_init_20 : decode cX3_init 20 = .ok (.return_, 1) := by decide +kernel
set_option maxRecDepth 20000 in
theorem ggX3_build_X4_init : GoodIn wsX3_build wsX4_init := goodIn_r _ [9, 10, 11, 12] (by decide +kernel) (by decide +kernel)
set_option maxRecDepth 20000 in
theorem gX3_build_X4_init_n33 : GoodIn wsX3_build (wsX4_init) := ggX3_build_X4_init
theorem dX3_build_0 : decode cX3_build 0 = .ok (.aload_n 0, 1) := by decide +kernel
theorem dX3_build_1 : decode cX3_build 1 = .ok (.getfield 9, 3) := by decide +kernel
theorem dX3_build_4 : decode cX3_build 4 = .ok (.arraylength, 1) := by decide +kernel
theorem dX3_build_5 : decode cX3_build 5 = .ok (.iconst 1, 1) := by decide +kernel
theorem dX3_build_6 : decode cX3_build 6 = .ok (.iadd, 1) := by decide +kernel
theorem dX3_build_7 : decode cX3_build 7 = .ok (.anewarray 7, 3) := by decide +kernel
theorem dX3_build_10 : decode cX3_build 10 = .ok (.astore 4, 2) := by decide +kernel
theorem dX3_build_12 : decode cX3_build 12 = .ok (.iconst 0, 1) := by decide +kernel
theorem dX3_build_13 : decode cX3_build 13 = .ok (.istore 5, 2) := by decide +kernel
theorem dX3_build_15 : decode cX3_build 15 = .ok (.iload 5, 2) := by decide +kernel
theorem dX3_build_17 : decode cX3_build 17 = .ok (.aload_n 0, 1) := by decide +kernel
theorem dX3_build_18 : decode cX3_build 18 = .ok (.getfield 9, 3) := by decide +kernel
theorem dX3_build_21 : decode cX3_build 21 = .ok (.arraylength, 1) := by decide +kernel
theorem dX3_build_22 : decode cX3_build 22 = .ok (.if_icmp .ge 21, 3) := by decide +kernel
theorem dX3_build_25 : decode cX3_build 25 = .ok (.aload 4, 2) := by decide +kernel
theorem dX3_build_27 : decode cX3_build 27 = .ok (.iload 5, 2) := by decide +kernel
theorem dX3_build_29 : decode cX3_build 29 = .ok (.aload_n 0, 1) := by decide +kernel
theorem dX3_build_30 : decode cX3_build 30 = .ok (.getfield 9, 3) := by decide +kernel
theorem dX3_build_33 : decode cX3_build 33 = .ok (.iload 5, 2) := by decide +kernel
theorem dX3_build_35 : decode cX3_build 35 = .ok (.aaload, 1) := by decide +kernel
theorem dX3_build_36 : decode cX3_build 36 = .ok (.aastore, 1) := by decide +kernel
theorem dX3_build_37 : decode cX3_build 37 = .ok (.iinc 5 1, 3) := by decide +kernel
theorem dX3_build_40 : decode cX3_build 40 = .ok (.goto (-25), 3) := by decide +kernel
theorem dX3_build_43 : decode cX3_build 43 = .ok (.new 7, 3) := by decide +kernel
theorem dX3_build_46 : decode cX3_build 46 = .ok (.dup, 1) := by decide +kernel
theorem dX3_build_47 : decode cX3_build 47 = .ok (.invokespecial 33, 3) := by decide +kernel
theorem dX3_build_50 : decode cX3_build 50 = .ok (.astore 5, 2) := by decide +kernel
theorem dX3_build_52 : decode cX3_build 52 = .ok (.aload 5, 2) := by decide +kernel
theorem dX3_build_54 : decode cX3_build 54 = .ok (.iload_n 1, 1) := by decide +kernel
theorem dX3_build_55 : decode cX3_build 55 = .ok (.putfield 34, 3) := by decide +kernel
theorem dX3_build_58 : decode cX3_build 58 = .ok (.aload 5, 2) := by decide +kernel
theorem dX3_build_60 : decode cX3_build 60 = .ok (.iload_n 2, 1) := by decide +kernel
theorem dX3_build_61 : decode cX3_build 61 = .ok (.putfield 37, 3) := by decide +kernel
theorem dX3_build_64 : decode cX3_build 64 = .ok (.aload 5, 2) := by decide +kernel
theorem dX3_build_66 : decode cX3_build 66 = .ok (.iload_n 3, 1) := by decide +kernel
theorem dX3_build_67 : decode cX3_build 67 = .ok (.putfield 40, 3) := by decide +kernel
theorem dX3_build_70 : decode cX3_build 70 = .ok (.aload 4, 2) := by decide +kernel
theorem dX3_build_72 : decode cX3_build 72 = .ok (.aload_n 0, 1) := by decide +kernel
theorem dX3_build_73 : decode cX3_build 73 = .ok (.getfield 9, 3) := by decide +kernel
theorem dX3_build_76 : decode cX3_build 76 = .ok (.arraylength, 1) := by decide +kernel
theorem dX3_build_77 : decode cX3_build 77 = .ok (.aload 5, 2) := by decide +kernel
theorem dX3_build_79 : decode cX3_build 79 = .ok (.aastore, 1) := by decide +kernel
theorem dX3_build_80 : decode cX3_build 80 = .ok (.aload_n 0, 1) := by decide +kernel
theorem dX3_build_81 : decode cX3_build 81 = .ok (.aload 4, 2) := by decide +kernel
theorem dX3_build_83 : decode cX3_build 83 = .ok (.putfield 9, 3) := by decide +kernel
theorem dX3_build_86 : decode cX3_build 86 = .ok (.return_, 1) := by decide +kernel
set_option maxRecDepth 20000 in
theorem ggX3_lay_X2_init : GoodIn wsX3_lay wsX2_init := goodIn_r _ [10, 11, 12, 13] (by decide +kernel) (by decide +kernel)
set_option maxRecDepth 20000 in
theorem gX3_lay_X2_init_n43 : GoodIn wsX3_lay (wsX2_init) := ggX3_lay_X2_init
theorem dX3_lay_0 : decode cX3_lay 0 = .ok (.aload_n 0, 1) := by decide +kernel
theorem dX3_lay_1 : decode cX3_lay 1 = .ok (.getfield 17, 3) := by decide +kernel
theorem dX3_lay_4 : decode cX3_lay 4 = .ok (.arraylength, 1) := by decide +kernel
theorem dX3_lay_5 : decode cX3_lay 5 = .ok (.iconst 1, 1) := by decide +kernel
theorem dX3_lay_6 : decode cX3_lay 6 = .ok (.iadd, 1) := by decide +kernel
theorem dX3_lay_7 : decode cX3_lay 7 = .ok (.anewarray 15, 3) := by decide +kernel
theorem dX3_lay_10 : decode cX3_lay 10 = .ok (.astore 5, 2) := by decide +kernel
theorem dX3_lay_12 : decode cX3_lay 12 = .ok (.iconst 0, 1) := by decide +kernel
theorem dX3_lay_13 : decode cX3_lay 13 = .ok (.istore 6, 2) := by decide +kernel
theorem dX3_lay_15 : decode cX3_lay 15 = .ok (.iload 6, 2) := by decide +kernel
theorem dX3_lay_17 : decode cX3_lay 17 = .ok (.aload_n 0, 1) := by decide +kernel
theorem dX3_lay_18 : decode cX3_lay 18 = .ok (.getfield 17, 3) := by decide +kernel
theorem dX3_lay_21 : decode cX3_lay 21 = .ok (.arraylength, 1) := by decide +kernel
theorem dX3_lay_22 : decode cX3_lay 22 = .ok (.if_icmp .ge 21, 3) := by decide +kernel
theorem dX3_lay_25 : decode cX3_lay 25 = .ok (.aload 5, 2) := by decide +kernel
theorem dX3_lay_27 : decode cX3_lay 27 = .ok (.iload 6, 2) := by decide +kernel
theorem dX3_lay_29 : decode cX3_lay 29 = .ok (.aload_n 0, 1) := by decide +kernel
theorem dX3_lay_30 : decode cX3_lay 30 = .ok (.getfield 17, 3) := by decide +kernel
theorem dX3_lay_33 : decode cX3_lay 33 = .ok (.iload 6, 2) := by decide +kernel
theorem dX3_lay_35 : decode cX3_lay 35 = .ok (.aaload, 1) := by decide +kernel
theorem dX3_lay_36 : decode cX3_lay 36 = .ok (.aastore, 1) := by decide +kernel
theorem dX3_lay_37 : decode cX3_lay 37 = .ok (.iinc 6 1, 3) := by decide +kernel
theorem dX3_lay_40 : decode cX3_lay 40 = .ok (.goto (-25), 3) := by decide +kernel
theorem dX3_lay_43 : decode cX3_lay 43 = .ok (.new 15, 3) := by decide +kernel
theorem dX3_lay_46 : decode cX3_lay 46 = .ok (.dup, 1) := by decide +kernel
theorem dX3_lay_47 : decode cX3_lay 47 = .ok (.invokespecial 43, 3) := by decide +kernel
theorem dX3_lay_50 : decode cX3_lay 50 = .ok (.astore 6, 2) := by decide +kernel
theorem dX3_lay_52 : decode cX3_lay 52 = .ok (.aload 6, 2) := by decide +kernel
theorem dX3_lay_54 : decode cX3_lay 54 = .ok (.iload_n 1, 1) := by decide +kernel
theorem dX3_lay_55 : decode cX3_lay 55 = .ok (.putfield 44, 3) := by decide +kernel
theorem dX3_lay_58 : decode cX3_lay 58 = .ok (.aload 6, 2) := by decide +kernel
theorem dX3_lay_60 : decode cX3_lay 60 = .ok (.iload_n 2, 1) := by decide +kernel
theorem dX3_lay_61 : decode cX3_lay 61 = .ok (.putfield 47, 3) := by decide +kernel
theorem dX3_lay_64 : decode cX3_lay 64 = .ok (.aload 6, 2) := by decide +kernel
theorem dX3_lay_66 : decode cX3_lay 66 = .ok (.iload_n 3, 1) := by decide +kernel
theorem dX3_lay_67 : decode cX3_lay 67 = .ok (.putfield 50, 3) := by decide +kernel
theorem dX3_lay_70 : decode cX3_lay 70 = .ok (.aload 6, 2) := by decide +kernel
theorem dX3_lay_72 : decode cX3_lay 72 = .ok (.iload 4, 2) := by decide +kernel
theorem dX3_lay_74 : decode cX3_lay 74 = .ok (.putfield 53, 3) := by decide +kernel
theorem dX3_lay_77 : decode cX3_lay 77 = .ok (.aload 5, 2) := by decide +kernel
theorem dX3_lay_79 : decode cX3_lay 79 = .ok (.aload_n 0, 1) := by decide +kernel
theorem dX3_lay_80 : decode cX3_lay 80 = .ok (.getfield 17, 3) := by decide +kernel
theorem dX3_lay_83 : decode cX3_lay 83 = .ok (.arraylength, 1) := by decide +kernel
theorem dX3_lay_84 : decode cX3_lay 84 = .ok (.aload 6, 2) := by decide +kernel
theorem dX3_lay_86 : decode cX3_lay 86 = .ok (.aastore, 1) := by decide +kernel
theorem dX3_lay_87 : decode cX3_lay 87 = .ok (.aload_n 0, 1) := by decide +kernel
theorem dX3_lay_88 : decode cX3_lay 88 = .ok (.aload 5, 2) := by decide +kernel
theorem dX3_lay_90 : decode cX3_lay 90 = .ok (.putfield 17, 3) := by decide +kernel
theorem dX3_lay_93 : decode cX3_lay 93 = .ok (.return_, 1) := by decide +kernel
theorem dX3_flows_0 : decode cX3_flows 0 = .ok (.aload_n 0, 1) := by decide +kernel
theorem dX3_flows_1 : decode cX3_flows 1 = .ok (.getfield 9, 3) := by decide +kernel
theorem dX3_flows_4 : decode cX3_flows 4 = .ok (.aload_n 1, 1) := by decide +kernel
theorem dX3_flows_5 : decode cX3_flows 5 = .ok (.getfield 44, 3) := by decide +kernel
theorem dX3_flows_8 : decode cX3_flows 8 = .ok (.aaload, 1) := by decide +kernel
theorem dX3_flows_9 : decode cX3_flows 9 = .ok (.astore_n 2, 1) := by decide +kernel
theorem dX3_flows_10 : decode cX3_flows 10 = .ok (.aload_n 0, 1) := by decide +kernel
theorem dX3_flows_11 : decode cX3_flows 11 = .ok (.getfield 9, 3) := by decide +kernel
theorem dX3_flows_14 : decode cX3_flows 14 = .ok (.aload_n 1, 1) := by decide +kernel
theorem dX3_flows_15 : decode cX3_flows 15 = .ok (.getfield 47, 3) := by decide +kernel
theorem dX3_flows_18 : decode cX3_flows 18 = .ok (.aaload, 1) := by decide +kernel
theorem dX3_flows_19 : decode cX3_flows 19 = .ok (.astore_n 3, 1) := by decide +kernel
theorem dX3_flows_20 : decode cX3_flows 20 = .ok (.bipush 10, 2) := by decide +kernel
theorem dX3_flows_22 : decode cX3_flows 22 = .ok (.aload_n 2, 1) := by decide +kernel
theorem dX3_flows_23 : decode cX3_flows 23 = .ok (.getfield 34, 3) := by decide +kernel
theorem dX3_flows_26 : decode cX3_flows 26 = .ok (.aload_n 3, 1) := by decide +kernel
theorem dX3_flows_27 : decode cX3_flows 27 = .ok (.getfield 34, 3) := by decide +kernel
theorem dX3_flows_30 : decode cX3_flows 30 = .ok (.isub, 1) := by decide +kernel
theorem dX3_flows_31 : decode cX3_flows 31 = .ok (.imul, 1) := by decide +kernel
theorem dX3_flows_32 : decode cX3_flows 32 = .ok (.aload_n 2, 1) := by decide +kernel
theorem dX3_flows_33 : decode cX3_flows 33 = .ok (.getfield 56, 3) := by decide +kernel
theorem dX3_flows_36 : decode cX3_flows 36 = .ok (.iadd, 1) := by decide +kernel
theorem dX3_flows_37 : decode cX3_flows 37 = .ok (.aload_n 3, 1) := by decide +kernel
theorem dX3_flows_38 : decode cX3_flows 38 = .ok (.getfield 56, 3) := by decide +kernel
theorem dX3_flows_41 : decode cX3_flows 41 = .ok (.isub, 1) := by decide +kernel
theorem dX3_flows_42 : decode cX3_flows 42 = .ok (.istore 4, 2) := by decide +kernel
theorem dX3_flows_44 : decode cX3_flows 44 = .ok (.iload 4, 2) := by decide +kernel
theorem dX3_flows_46 : decode cX3_flows 46 = .ok (.iconst 1, 1) := by decide +kernel
theorem dX3_flows_47 : decode cX3_flows 47 = .ok (.if_icmp .lt 23, 3) := by decide +kernel
theorem dX3_flows_50 : decode cX3_flows 50 = .ok (.iload 4, 2) := by decide +kernel
theorem dX3_flows_52 : decode cX3_flows 52 = .ok (.aload_n 1, 1) := by decide +kernel
theorem dX3_flows_53 : decode cX3_flows 53 = .ok (.getfield 53, 3) := by decide +kernel
theorem dX3_flows_56 : decode cX3_flows 56 = .ok (.if_icmp .lt 14, 3) := by decide +kernel
theorem dX3_flows_59 : decode cX3_flows 59 = .ok (.aload_n 1, 1) := by decide +kernel
theorem dX3_flows_60 : decode cX3_flows 60 = .ok (.getfield 50, 3) := by decide +kernel
theorem dX3_flows_63 : decode cX3_flows 63 = .ok (.aload_n 1, 1) := by decide +kernel
theorem dX3_flows_64 : decode cX3_flows 64 = .ok (.getfield 59, 3) := by decide +kernel
theorem dX3_flows_67 : decode cX3_flows 67 = .ok (.if_icmp .gt 5, 3) := by decide +kernel
theorem dX3_flows_70 : decode cX3_flows 70 = .ok (.iconst 0, 1) := by decide +kernel
theorem dX3_flows_71 : decode cX3_flows 71 = .ok (.ireturn, 1) := by decide +kernel
theorem dX3_flows_72 : decode cX3_flows 72 = .ok (.aload_n 1, 1) := by decide +kernel
theorem dX3_flows_73 : decode cX3_flows 73 = .ok (.getfield 50, 3) := by decide +kernel
theorem dX3_flows_76 : decode cX3_flows 76 = .ok (.aload_n 1, 1) := by decide +kernel
theorem dX3_flows_77 : decode cX3_flows 77 = .ok (.getfield 59, 3) := by decide +kernel
theorem dX3_flows_80 : decode cX3_flows 80 = .ok (.isub, 1) := by decide +kernel
theorem dX3_flows_81 : decode cX3_flows 81 = .ok (.istore 5, 2) := by decide +kernel
theorem dX3_flows_83 : decode cX3_flows 83 = .ok (.iload 5, 2) := by decide +kernel
theorem dX3_flows_85 : decode cX3_flows 85 = .ok (.iconst 1, 1) := by decide +kernel
theorem dX3_flows_86 : decode cX3_flows 86 = .ok (.iload 4, 2) := by decide +kernel
theorem dX3_flows_88 : decode cX3_flows 88 = .ok (.bipush 10, 2) := by decide +kernel
theorem dX3_flows_90 : decode cX3_flows 90 = .ok (.idiv, 1) := by decide +kernel
theorem dX3_flows_91 : decode cX3_flows 91 = .ok (.iadd, 1) := by decide +kernel
theorem dX3_flows_92 : decode cX3_flows 92 = .ok (.if_icmp .le 12, 3) := by decide +kernel
theorem dX3_flows_95 : decode cX3_flows 95 = .ok (.iconst 1, 1) := by decide +kernel
theorem dX3_flows_96 : decode cX3_flows 96 = .ok (.iload 4, 2) := by decide +kernel
theorem dX3_flows_98 : decode cX3_flows 98 = .ok (.bipush 10, 2) := by decide +kernel
theorem dX3_flows_100 : decode cX3_flows 100 = .ok (.idiv, 1) := by decide +kernel
theorem dX3_flows_101 : decode cX3_flows 101 = .ok (.iadd, 1) := by decide +kernel
theorem dX3_flows_102 : decode cX3_flows 102 = .ok (.istore 5, 2) := by decide +kernel
theorem dX3_flows_104 : decode cX3_flows 104 = .ok (.iload 5, 2) := by decide +kernel
theorem dX3_flows_106 : decode cX3_flows 106 = .ok (.aload_n 2, 1) := by decide +kernel
theorem dX3_flows_107 : decode cX3_flows 107 = .ok (.getfield 56, 3) := by decide +kernel
theorem dX3_flows_110 : decode cX3_flows 110 = .ok (.if_icmp .le 10, 3) := by decide +kernel
theorem dX3_flows_113 : decode cX3_flows 113 = .ok (.aload_n 2, 1) := by decide +kernel
theorem dX3_flows_114 : decode cX3_flows 114 = .ok (.getfield 56, 3) := by decide +kernel
theorem dX3_flows_117 : decode cX3_flows 117 = .ok (.goto 5, 3) := by decide +kernel
theorem dX3_flows_120 : decode cX3_flows 120 = .ok (.iload 5, 2) := by decide +kernel
theorem dX3_flows_122 : decode cX3_flows 122 = .ok (.ireturn, 1) := by decide +kernel
set_option maxRecDepth 20000 in
theorem ggX3_pass_X4_comes : GoodIn wsX3_pass wsX4_comes := goodIn_r _ [21, 22, 23, 24, 36, 37, 38, 39, 40, 41, 42, 43] (by decide +kernel) (by decide +kernel)
set_option maxRecDepth 20000 in
theorem gX3_pass_X4_comes : GoodIn wsX3_pass (wsV RX3 62 RX4 yX4_comes wsX4_comes) := goodIn_app (goodIn_of _ (by decide +kernel)) ggX3_pass_X4_comes
set_option maxRecDepth 20000 in
theorem ggX3_pass_X3_flows : GoodIn wsX3_pass wsX3_flows := goodIn_r _ [29, 1, 4, 11, 30, 10, 31, 32, 13, 33, 34, 35, 44, 45, 46, 47, 48, 49, 50, 51, 52, 36, 37, 38, 39, 40, 41, 42, 43] (by decide +kernel) (by decide +kernel)
set_option maxRecDepth 20000 in
theorem gX3_pass_X3_flows : GoodIn wsX3_pass (wsV RX3 66 RX3 yX3_flows wsX3_flows) := goodIn_app (goodIn_of _ (by decide +kernel)) ggX3_pass_X3_flows
theorem dX3_pass_0 : decode cX3_pass 0 = .ok (.iconst 0, 1) := by decide +kernel
theorem dX3_pass_1 : decode cX3_pass 1 = .ok (.istore_n 1, 1) := by decide +kernel
theorem dX3_pass_2 : decode cX3_pass 2 = .ok (.aload_n 0, 1) := by decide +kernel
theorem dX3_pass_3 : decode cX3_pass 3 = .ok (.getfield 9, 3) := by decide +kernel
theorem dX3_pass_6 : decode cX3_pass 6 = .ok (.astore_n 2, 1) := by decide +kernel
theorem dX3_pass_7 : decode cX3_pass 7 = .ok (.aload_n 2, 1) := by decide +kernel
theorem dX3_pass_8 : decode cX3_pass 8 = .ok (.arraylength, 1) := by decide +kernel
theorem dX3_pass_9 : decode cX3_pass 9 = .ok (.istore_n 3, 1) := by decide +kernel
theorem dX3_pass_10 : decode cX3_pass 10 = .ok (.iconst 0, 1) := by decide +kernel
theorem dX3_pass_11 : decode cX3_pass 11 = .ok (.istore 4, 2) := by decide +kernel
theorem dX3_pass_13 : decode cX3_pass 13 = .ok (.iload 4, 2) := by decide +kernel
theorem dX3_pass_15 : decode cX3_pass 15 = .ok (.iload_n 3, 1) := by decide +kernel
theorem dX3_pass_16 : decode cX3_pass 16 = .ok (.if_icmp .ge 32, 3) := by decide +kernel
theorem dX3_pass_19 : decode cX3_pass 19 = .ok (.aload_n 2, 1) := by decide +kernel
theorem dX3_pass_20 : decode cX3_pass 20 = .ok (.iload 4, 2) := by decide +kernel
theorem dX3_pass_22 : decode cX3_pass 22 = .ok (.aaload, 1) := by decide +kernel
theorem dX3_pass_23 : decode cX3_pass 23 = .ok (.astore 5, 2) := by decide +kernel
theorem dX3_pass_25 : decode cX3_pass 25 = .ok (.aload 5, 2) := by decide +kernel
theorem dX3_pass_27 : decode cX3_pass 27 = .ok (.aload 5, 2) := by decide +kernel
theorem dX3_pass_29 : decode cX3_pass 29 = .ok (.getfield 37, 3) := by decide +kernel
theorem dX3_pass_32 : decode cX3_pass 32 = .ok (.aload 5, 2) := by decide +kernel
theorem dX3_pass_34 : decode cX3_pass 34 = .ok (.getfield 37, 3) := by decide +kernel
theorem dX3_pass_37 : decode cX3_pass 37 = .ok (.iconst 4, 1) := by decide +kernel
theorem dX3_pass_38 : decode cX3_pass 38 = .ok (.idiv, 1) := by decide +kernel
theorem dX3_pass_39 : decode cX3_pass 39 = .ok (.invokevirtual 62, 3) := by decide +kernel
theorem dX3_pass_42 : decode cX3_pass 42 = .ok (.iinc 4 1, 3) := by decide +kernel
theorem dX3_pass_45 : decode cX3_pass 45 = .ok (.goto (-32), 3) := by decide +kernel
theorem dX3_pass_48 : decode cX3_pass 48 = .ok (.aload_n 0, 1) := by decide +kernel
theorem dX3_pass_49 : decode cX3_pass 49 = .ok (.getfield 17, 3) := by decide +kernel
theorem dX3_pass_52 : decode cX3_pass 52 = .ok (.astore_n 2, 1) := by decide +kernel
theorem dX3_pass_53 : decode cX3_pass 53 = .ok (.aload_n 2, 1) := by decide +kernel
theorem dX3_pass_54 : decode cX3_pass 54 = .ok (.arraylength, 1) := by decide +kernel
theorem dX3_pass_55 : decode cX3_pass 55 = .ok (.istore_n 3, 1) := by decide +kernel
theorem dX3_pass_56 : decode cX3_pass 56 = .ok (.iconst 0, 1) := by decide +kernel
theorem dX3_pass_57 : decode cX3_pass 57 = .ok (.istore 4, 2) := by decide +kernel
theorem dX3_pass_59 : decode cX3_pass 59 = .ok (.iload 4, 2) := by decide +kernel
theorem dX3_pass_61 : decode cX3_pass 61 = .ok (.iload_n 3, 1) := by decide +kernel
theorem dX3_pass_62 : decode cX3_pass 62 = .ok (.if_icmp .ge 197, 3) := by decide +kernel
theorem dX3_pass_65 : decode cX3_pass 65 = .ok (.aload_n 2, 1) := by decide +kernel
theorem dX3_pass_66 : decode cX3_pass 66 = .ok (.iload 4, 2) := by decide +kernel
theorem dX3_pass_68 : decode cX3_pass 68 = .ok (.aaload, 1) := by decide +kernel
theorem dX3_pass_69 : decode cX3_pass 69 = .ok (.astore 5, 2) := by decide +kernel
theorem dX3_pass_71 : decode cX3_pass 71 = .ok (.aload_n 0, 1) := by decide +kernel
theorem dX3_pass_72 : decode cX3_pass 72 = .ok (.getfield 9, 3) := by decide +kernel
theorem dX3_pass_75 : decode cX3_pass 75 = .ok (.aload 5, 2) := by decide +kernel
theorem dX3_pass_77 : decode cX3_pass 77 = .ok (.getfield 44, 3) := by decide +kernel
theorem dX3_pass_80 : decode cX3_pass 80 = .ok (.aaload, 1) := by decide +kernel
theorem dX3_pass_81 : decode cX3_pass 81 = .ok (.astore 6, 2) := by decide +kernel
theorem dX3_pass_83 : decode cX3_pass 83 = .ok (.aload 5, 2) := by decide +kernel
theorem dX3_pass_85 : decode cX3_pass 85 = .ok (.aload_n 0, 1) := by decide +kernel
theorem dX3_pass_86 : decode cX3_pass 86 = .ok (.aload 5, 2) := by decide +kernel
theorem dX3_pass_88 : decode cX3_pass 88 = .ok (.invokevirtual 66, 3) := by decide +kernel
theorem dX3_pass_91 : decode cX3_pass 91 = .ok (.putfield 70, 3) := by decide +kernel
theorem dX3_pass_94 : decode cX3_pass 94 = .ok (.aload 5, 2) := by decide +kernel
theorem dX3_pass_96 : decode cX3_pass 96 = .ok (.aload 5, 2) := by decide +kernel
theorem dX3_pass_98 : decode cX3_pass 98 = .ok (.getfield 73, 3) := by decide +kernel
theorem dX3_pass_101 : decode cX3_pass 101 = .ok (.aload 5, 2) := by decide +kernel
theorem dX3_pass_103 : decode cX3_pass 103 = .ok (.getfield 70, 3) := by decide +kernel
theorem dX3_pass_106 : decode cX3_pass 106 = .ok (.if_icmp .ge 11, 3) := by decide +kernel
theorem dX3_pass_109 : decode cX3_pass 109 = .ok (.aload 5, 2) := by decide +kernel
theorem dX3_pass_111 : decode cX3_pass 111 = .ok (.getfield 73, 3) := by decide +kernel
theorem dX3_pass_114 : decode cX3_pass 114 = .ok (.goto 8, 3) := by decide +kernel
theorem dX3_pass_117 : decode cX3_pass 117 = .ok (.aload 5, 2) := by decide +kernel
theorem dX3_pass_119 : decode cX3_pass 119 = .ok (.getfield 70, 3) := by decide +kernel
theorem dX3_pass_122 : decode cX3_pass 122 = .ok (.putfield 76, 3) := by decide +kernel
theorem dX3_pass_125 : decode cX3_pass 125 = .ok (.aload 5, 2) := by decide +kernel
theorem dX3_pass_127 : decode cX3_pass 127 = .ok (.dup, 1) := by decide +kernel
theorem dX3_pass_128 : decode cX3_pass 128 = .ok (.getfield 79, 3) := by decide +kernel
theorem dX3_pass_131 : decode cX3_pass 131 = .ok (.aload 5, 2) := by decide +kernel
theorem dX3_pass_133 : decode cX3_pass 133 = .ok (.getfield 76, 3) := by decide +kernel
theorem dX3_pass_136 : decode cX3_pass 136 = .ok (.iadd, 1) := by decide +kernel
theorem dX3_pass_137 : decode cX3_pass 137 = .ok (.putfield 79, 3) := by decide +kernel
theorem dX3_pass_140 : decode cX3_pass 140 = .ok (.aload 5, 2) := by decide +kernel
theorem dX3_pass_142 : decode cX3_pass 142 = .ok (.getfield 70, 3) := by decide +kernel
theorem dX3_pass_145 : decode cX3_pass 145 = .ok (.ifCond .ne 6, 3) := by decide +kernel
theorem dX3_pass_148 : decode cX3_pass 148 = .ok (.goto 105, 3) := by decide +kernel
theorem dX3_pass_151 : decode cX3_pass 151 = .ok (.aload 6, 2) := by decide +kernel
theorem dX3_pass_153 : decode cX3_pass 153 = .ok (.getfield 82, 3) := by decide +kernel
theorem dX3_pass_156 : decode cX3_pass 156 = .ok (.aload 5, 2) := by decide +kernel
theorem dX3_pass_158 : decode cX3_pass 158 = .ok (.getfield 70, 3) := by decide +kernel
theorem dX3_pass_161 : decode cX3_pass 161 = .ok (.imul, 1) := by decide +kernel
theorem dX3_pass_162 : decode cX3_pass 162 = .ok (.aload 6, 2) := by decide +kernel
theorem dX3_pass_164 : decode cX3_pass 164 = .ok (.getfield 56, 3) := by decide +kernel
theorem dX3_pass_167 : decode cX3_pass 167 = .ok (.idiv, 1) := by decide +kernel
theorem dX3_pass_168 : decode cX3_pass 168 = .ok (.istore 7, 2) := by decide +kernel
theorem dX3_pass_170 : decode cX3_pass 170 = .ok (.aload 6, 2) := by decide +kernel
theorem dX3_pass_172 : decode cX3_pass 172 = .ok (.dup, 1) := by decide +kernel
theorem dX3_pass_173 : decode cX3_pass 173 = .ok (.getfield 56, 3) := by decide +kernel
theorem dX3_pass_176 : decode cX3_pass 176 = .ok (.aload 5, 2) := by decide +kernel
theorem dX3_pass_178 : decode cX3_pass 178 = .ok (.getfield 70, 3) := by decide +kernel
theorem dX3_pass_181 : decode cX3_pass 181 = .ok (.isub, 1) := by decide +kernel
theorem dX3_pass_182 : decode cX3_pass 182 = .ok (.putfield 56, 3) := by decide +kernel
theorem dX3_pass_185 : decode cX3_pass 185 = .ok (.aload 6, 2) := by decide +kernel
theorem dX3_pass_187 : decode cX3_pass 187 = .ok (.dup, 1) := by decide +kernel
theorem dX3_pass_188 : decode cX3_pass 188 = .ok (.getfield 82, 3) := by decide +kernel
theorem dX3_pass_191 : decode cX3_pass 191 = .ok (.iload 7, 2) := by decide +kernel
theorem dX3_pass_193 : decode cX3_pass 193 = .ok (.isub, 1) := by decide +kernel
theorem dX3_pass_194 : decode cX3_pass 194 = .ok (.putfield 82, 3) := by decide +kernel
theorem dX3_pass_197 : decode cX3_pass 197 = .ok (.aload_n 0, 1) := by decide +kernel
theorem dX3_pass_198 : decode cX3_pass 198 = .ok (.getfield 9, 3) := by decide +kernel
theorem dX3_pass_201 : decode cX3_pass 201 = .ok (.aload 5, 2) := by decide +kernel
theorem dX3_pass_203 : decode cX3_pass 203 = .ok (.getfield 47, 3) := by decide +kernel
theorem dX3_pass_206 : decode cX3_pass 206 = .ok (.aaload, 1) := by decide +kernel
theorem dX3_pass_207 : decode cX3_pass 207 = .ok (.aload 5, 2) := by decide +kernel
theorem dX3_pass_209 : decode cX3_pass 209 = .ok (.getfield 70, 3) := by decide +kernel
theorem dX3_pass_212 : decode cX3_pass 212 = .ok (.aload 5, 2) := by decide +kernel
theorem dX3_pass_214 : decode cX3_pass 214 = .ok (.getfield 76, 3) := by decide +kernel
theorem dX3_pass_217 : decode cX3_pass 217 = .ok (.isub, 1) := by decide +kernel
theorem dX3_pass_218 : decode cX3_pass 218 = .ok (.iload 7, 2) := by decide +kernel
theorem dX3_pass_220 : decode cX3_pass 220 = .ok (.invokevirtual 62, 3) := by decide +kernel
theorem dX3_pass_223 : decode cX3_pass 223 = .ok (.aload_n 0, 1) := by decide +kernel
theorem dX3_pass_224 : decode cX3_pass 224 = .ok (.getfield 29, 3) := by decide +kernel
theorem dX3_pass_227 : decode cX3_pass 227 = .ok (.iconst 4, 1) := by decide +kernel
theorem dX3_pass_228 : decode cX3_pass 228 = .ok (.irem, 1) := by decide +kernel
theorem dX3_pass_229 : decode cX3_pass 229 = .ok (.ifCond .ne 24, 3) := by decide +kernel
theorem dX3_pass_232 : decode cX3_pass 232 = .ok (.aload 5, 2) := by decide +kernel
theorem dX3_pass_234 : decode cX3_pass 234 = .ok (.getfield 59, 3) := by decide +kernel
theorem dX3_pass_237 : decode cX3_pass 237 = .ok (.bipush 20, 2) := by decide +kernel
theorem dX3_pass_239 : decode cX3_pass 239 = .ok (.if_icmp .ge 14, 3) := by decide +kernel
theorem dX3_pass_242 : decode cX3_pass 242 = .ok (.aload 5, 2) := by decide +kernel
theorem dX3_pass_244 : decode cX3_pass 244 = .ok (.dup, 1) := by decide +kernel
theorem dX3_pass_245 : decode cX3_pass 245 = .ok (.getfield 59, 3) := by decide +kernel
theorem dX3_pass_248 : decode cX3_pass 248 = .ok (.iconst 1, 1) := by decide +kernel
theorem dX3_pass_249 : decode cX3_pass 249 = .ok (.iadd, 1) := by decide +kernel
theorem dX3_pass_250 : decode cX3_pass 250 = .ok (.putfield 59, 3) := by decide +kernel
theorem dX3_pass_253 : decode cX3_pass 253 = .ok (.iinc 4 1, 3) := by decide +kernel
theorem dX3_pass_256 : decode cX3_pass 256 = .ok (.goto (-197), 3) := by decide +kernel
theorem dX3_pass_259 : decode cX3_pass 259 = .ok (.aload_n 0, 1) := by decide +kernel
theorem dX3_pass_260 : decode cX3_pass 260 = .ok (.getfield 9, 3) := by decide +kernel
theorem dX3_pass_263 : decode cX3_pass 263 = .ok (.astore_n 2, 1) := by decide +kernel
theorem dX3_pass_264 : decode cX3_pass 264 = .ok (.aload_n 2, 1) := by decide +kernel
theorem dX3_pass_265 : decode cX3_pass 265 = .ok (.arraylength, 1) := by decide +kernel
theorem dX3_pass_266 : decode cX3_pass 266 = .ok (.istore_n 3, 1) := by decide +kernel
theorem dX3_pass_267 : decode cX3_pass 267 = .ok (.iconst 0, 1) := by decide +kernel
theorem dX3_pass_268 : decode cX3_pass 268 = .ok (.istore 4, 2) := by decide +kernel
theorem dX3_pass_270 : decode cX3_pass 270 = .ok (.iload 4, 2) := by decide +kernel
theorem dX3_pass_272 : decode cX3_pass 272 = .ok (.iload_n 3, 1) := by decide +kernel
theorem dX3_pass_273 : decode cX3_pass 273 = .ok (.if_icmp .ge 106, 3) := by decide +kernel
theorem dX3_pass_276 : decode cX3_pass 276 = .ok (.aload_n 2, 1) := by decide +kernel
theorem dX3_pass_277 : decode cX3_pass 277 = .ok (.iload 4, 2) := by decide +kernel
theorem dX3_pass_279 : decode cX3_pass 279 = .ok (.aaload, 1) := by decide +kernel
theorem dX3_pass_280 : decode cX3_pass 280 = .ok (.astore 5, 2) := by decide +kernel
theorem dX3_pass_282 : decode cX3_pass 282 = .ok (.aload 5, 2) := by decide +kernel
theorem dX3_pass_284 : decode cX3_pass 284 = .ok (.aload 5, 2) := by decide +kernel
theorem dX3_pass_286 : decode cX3_pass 286 = .ok (.getfield 82, 3) := by decide +kernel
theorem dX3_pass_289 : decode cX3_pass 289 = .ok (.bipush 49, 2) := by decide +kernel
theorem dX3_pass_291 : decode cX3_pass 291 = .ok (.if_icmp .le 13, 3) := by decide +kernel
theorem dX3_pass_294 : decode cX3_pass 294 = .ok (.aload 5, 2) := by decide +kernel
theorem dX3_pass_296 : decode cX3_pass 296 = .ok (.getfield 40, 3) := by decide +kernel
theorem dX3_pass_299 : decode cX3_pass 299 = .ok (.iconst 2, 1) := by decide +kernel
theorem dX3_pass_300 : decode cX3_pass 300 = .ok (.idiv, 1) := by decide +kernel
theorem dX3_pass_301 : decode cX3_pass 301 = .ok (.goto 8, 3) := by decide +kernel
theorem dX3_pass_304 : decode cX3_pass 304 = .ok (.aload 5, 2) := by decide +kernel
theorem dX3_pass_306 : decode cX3_pass 306 = .ok (.getfield 40, 3) := by decide +kernel
theorem dX3_pass_309 : decode cX3_pass 309 = .ok (.putfield 85, 3) := by decide +kernel
theorem dX3_pass_312 : decode cX3_pass 312 = .ok (.aload 5, 2) := by decide +kernel
theorem dX3_pass_314 : decode cX3_pass 314 = .ok (.getfield 85, 3) := by decide +kernel
theorem dX3_pass_317 : decode cX3_pass 317 = .ok (.aload 5, 2) := by decide +kernel
theorem dX3_pass_319 : decode cX3_pass 319 = .ok (.getfield 56, 3) := by decide +kernel
theorem dX3_pass_322 : decode cX3_pass 322 = .ok (.if_icmp .le 13, 3) := by decide +kernel
theorem dX3_pass_325 : decode cX3_pass 325 = .ok (.aload 5, 2) := by decide +kernel
theorem dX3_pass_327 : decode cX3_pass 327 = .ok (.aload 5, 2) := by decide +kernel
theorem dX3_pass_329 : decode cX3_pass 329 = .ok (.getfield 56, 3) := by decide +kernel
theorem dX3_pass_332 : decode cX3_pass 332 = .ok (.putfield 85, 3) := by decide +kernel
theorem dX3_pass_335 : decode cX3_pass 335 = .ok (.aload 5, 2) := by decide +kernel
theorem dX3_pass_337 : decode cX3_pass 337 = .ok (.dup, 1) := by decide +kernel
theorem dX3_pass_338 : decode cX3_pass 338 = .ok (.getfield 56, 3) := by decide +kernel
theorem dX3_pass_341 : decode cX3_pass 341 = .ok (.aload 5, 2) := by decide +kernel
theorem dX3_pass_343 : decode cX3_pass 343 = .ok (.getfield 85, 3) := by decide +kernel
theorem dX3_pass_346 : decode cX3_pass 346 = .ok (.isub, 1) := by decide +kernel
theorem dX3_pass_347 : decode cX3_pass 347 = .ok (.putfield 56, 3) := by decide +kernel
theorem dX3_pass_350 : decode cX3_pass 350 = .ok (.aload 5, 2) := by decide +kernel
theorem dX3_pass_352 : decode cX3_pass 352 = .ok (.dup, 1) := by decide +kernel
theorem dX3_pass_353 : decode cX3_pass 353 = .ok (.getfield 88, 3) := by decide +kernel
theorem dX3_pass_356 : decode cX3_pass 356 = .ok (.aload 5, 2) := by decide +kernel
theorem dX3_pass_358 : decode cX3_pass 358 = .ok (.getfield 85, 3) := by decide +kernel
theorem dX3_pass_361 : decode cX3_pass 361 = .ok (.iadd, 1) := by decide +kernel
theorem dX3_pass_362 : decode cX3_pass 362 = .ok (.putfield 88, 3) := by decide +kernel
theorem dX3_pass_365 : decode cX3_pass 365 = .ok (.iload_n 1, 1) := by decide +kernel
theorem dX3_pass_366 : decode cX3_pass 366 = .ok (.aload 5, 2) := by decide +kernel
theorem dX3_pass_368 : decode cX3_pass 368 = .ok (.getfield 85, 3) := by decide +kernel
theorem dX3_pass_371 : decode cX3_pass 371 = .ok (.iadd, 1) := by decide +kernel
theorem dX3_pass_372 : decode cX3_pass 372 = .ok (.istore_n 1, 1) := by decide +kernel
theorem dX3_pass_373 : decode cX3_pass 373 = .ok (.iinc 4 1, 3) := by decide +kernel
theorem dX3_pass_376 : decode cX3_pass 376 = .ok (.goto (-106), 3) := by decide +kernel
theorem dX3_pass_379 : decode cX3_pass 379 = .ok (.aload_n 0, 1) := by decide +kernel
theorem dX3_pass_380 : decode cX3_pass 380 = .ok (.dup, 1) := by decide +kernel
theorem dX3_pass_381 : decode cX3_pass 381 = .ok (.getfield 29, 3) := by decide +kernel
theorem dX3_pass_384 : decode cX3_pass 384 = .ok (.iconst 1, 1) := by decide +kernel
theorem dX3_pass_385 : decode cX3_pass 385 = .ok (.iadd, 1) := by decide +kernel
theorem dX3_pass_386 : decode cX3_pass 386 = .ok (.putfield 29, 3) := by decide +kernel
theorem dX3_pass_389 : decode cX3_pass 389 = .ok (.iload_n 1, 1) := by decide +kernel
theorem dX3_pass_390 : decode cX3_pass 390 = .ok (.ireturn, 1) := by decide +kernel
theorem dX3_water_0 : decode cX3_water 0 = .ok (.iconst 0, 1) := by decide +kernel
theorem dX3_water_1 : decode cX3_water 1 = .ok (.istore_n 1, 1) := by decide +kernel
theorem dX3_water_2 : decode cX3_water 2 = .ok (.aload_n 0, 1) := by decide +kernel
theorem dX3_water_3 : decode cX3_water 3 = .ok (.getfield 9, 3) := by decide +kernel
theorem dX3_water_6 : decode cX3_water 6 = .ok (.astore_n 2, 1) := by decide +kernel
theorem dX3_water_7 : decode cX3_water 7 = .ok (.aload_n 2, 1) := by decide +kernel
theorem dX3_water_8 : decode cX3_water 8 = .ok (.arraylength, 1) := by decide +kernel
theorem dX3_water_9 : decode cX3_water 9 = .ok (.istore_n 3, 1) := by decide +kernel
theorem dX3_water_10 : decode cX3_water 10 = .ok (.iconst 0, 1) := by decide +kernel
theorem dX3_water_11 : decode cX3_water 11 = .ok (.istore 4, 2) := by decide +kernel
theorem dX3_water_13 : decode cX3_water 13 = .ok (.iload 4, 2) := by decide +kernel
theorem dX3_water_15 : decode cX3_water 15 = .ok (.iload_n 3, 1) := by decide +kernel
theorem dX3_water_16 : decode cX3_water 16 = .ok (.if_icmp .ge 23, 3) := by decide +kernel
theorem dX3_water_19 : decode cX3_water 19 = .ok (.aload_n 2, 1) := by decide +kernel
theorem dX3_water_20 : decode cX3_water 20 = .ok (.iload 4, 2) := by decide +kernel
theorem dX3_water_22 : decode cX3_water 22 = .ok (.aaload, 1) := by decide +kernel
theorem dX3_water_23 : decode cX3_water 23 = .ok (.astore 5, 2) := by decide +kernel
theorem dX3_water_25 : decode cX3_water 25 = .ok (.iload_n 1, 1) := by decide +kernel
theorem dX3_water_26 : decode cX3_water 26 = .ok (.aload 5, 2) := by decide +kernel
theorem dX3_water_28 : decode cX3_water 28 = .ok (.getfield 56, 3) := by decide +kernel
theorem dX3_water_31 : decode cX3_water 31 = .ok (.iadd, 1) := by decide +kernel
theorem dX3_water_32 : decode cX3_water 32 = .ok (.istore_n 1, 1) := by decide +kernel
theorem dX3_water_33 : decode cX3_water 33 = .ok (.iinc 4 1, 3) := by decide +kernel
theorem dX3_water_36 : decode cX3_water 36 = .ok (.goto (-23), 3) := by decide +kernel
theorem dX3_water_39 : decode cX3_water 39 = .ok (.iload_n 1, 1) := by decide +kernel
theorem dX3_water_40 : decode cX3_water 40 = .ok (.ireturn, 1) := by decide +kernel
theorem dX3_lost_0 : decode cX3_lost 0 = .ok (.iconst 0, 1) := by decide +kernel
theorem dX3_lost_1 : decode cX3_lost 1 = .ok (.istore_n 1, 1) := by decide +kernel
theorem dX3_lost_2 : decode cX3_lost 2 = .ok (.aload_n 0, 1) := by decide +kernel
theorem dX3_lost_3 : decode cX3_lost 3 = .ok (.getfield 17, 3) := by decide +kernel
theorem dX3_lost_6 : decode cX3_lost 6 = .ok (.astore_n 2, 1) := by decide +kernel
theorem dX3_lost_7 : decode cX3_lost 7 = .ok (.aload_n 2, 1) := by decide +kernel
theorem dX3_lost_8 : decode cX3_lost 8 = .ok (.arraylength, 1) := by decide +kernel
theorem dX3_lost_9 : decode cX3_lost 9 = .ok (.istore_n 3, 1) := by decide +kernel
theorem dX3_lost_10 : decode cX3_lost 10 = .ok (.iconst 0, 1) := by decide +kernel
theorem dX3_lost_11 : decode cX3_lost 11 = .ok (.istore 4, 2) := by decide +kernel
theorem dX3_lost_13 : decode cX3_lost 13 = .ok (.iload 4, 2) := by decide +kernel
theorem dX3_lost_15 : decode cX3_lost 15 = .ok (.iload_n 3, 1) := by decide +kernel
theorem dX3_lost_16 : decode cX3_lost 16 = .ok (.if_icmp .ge 23, 3) := by decide +kernel
theorem dX3_lost_19 : decode cX3_lost 19 = .ok (.aload_n 2, 1) := by decide +kernel
theorem dX3_lost_20 : decode cX3_lost 20 = .ok (.iload 4, 2) := by decide +kernel
theorem dX3_lost_22 : decode cX3_lost 22 = .ok (.aaload, 1) := by decide +kernel
theorem dX3_lost_23 : decode cX3_lost 23 = .ok (.astore 5, 2) := by decide +kernel
theorem dX3_lost_25 : decode cX3_lost 25 = .ok (.iload_n 1, 1) := by decide +kernel
theorem dX3_lost_26 : decode cX3_lost 26 = .ok (.aload 5, 2) := by decide +kernel
theorem dX3_lost_28 : decode cX3_lost 28 = .ok (.getfield 79, 3) := by decide +kernel
theorem dX3_lost_31 : decode cX3_lost 31 = .ok (.iadd, 1) := by decide +kernel
theorem dX3_lost_32 : decode cX3_lost 32 = .ok (.istore_n 1, 1) := by decide +kernel
theorem dX3_lost_33 : decode cX3_lost 33 = .ok (.iinc 4 1, 3) := by decide +kernel
theorem dX3_lost_36 : decode cX3_lost 36 = .ok (.goto (-23), 3) := by decide +kernel
theorem dX3_lost_39 : decode cX3_lost 39 = .ok (.iload_n 1, 1) := by decide +kernel
theorem dX3_lost_40 : decode cX3_lost 40 = .ok (.ireturn, 1) := by decide +kernel
set_option maxRecDepth 20000 in
theorem ggX3_isSame_X1_tank : GoodIn wsX3_isSame wsX1_tank := goodIn_ca (goodIn_r _ [25, 26, 27, 28, 29, 30, 24, 31, 32, 33, 34, 35, 36, 37, 38, 39, 40, 142, 143, 144, 145, 146, 147, 148] (by decide +kernel) (by decide +kernel)) (goodIn_sub (fun _ h => List.mem_cons_of_mem _ (List.mem_append_right _ h)) (by decide +kernel))
set_option maxRecDepth 20000 in
theorem gX3_isSame_X1_tank : GoodIn wsX3_isSame (wsV RX3 92 RX1 yX1_tank wsX1_tank) := goodIn_app (goodIn_of _ (by decide +kernel)) ggX3_isSame_X1_tank
set_option maxRecDepth 20000 in
theorem ggX3_isSame_X3_flows : GoodIn wsX3_isSame wsX3_flows := goodIn_r _ [45, 1, 12, 13, 3, 6, 15, 14, 16, 122, 123, 124, 133, 134, 135, 136, 137, 138, 139, 140, 141, 125, 126, 127, 128, 129, 130, 131, 132] (by decide +kernel) (by decide +kernel)
set_option maxRecDepth 20000 in
theorem gX3_isSame_X3_flows : GoodIn wsX3_isSame (wsV RX3 66 RX3 yX3_flows wsX3_flows) := goodIn_app (goodIn_of _ (by decide +kernel)) ggX3_isSame_X3_flows
set_option maxRecDepth 20000 in
theorem ggX3_isSame_X1_pipe : GoodIn wsX3_isSame wsX1_pipe := goodIn_ca (goodIn_r _ [49, 26, 50, 51, 52, 24, 53, 54, 33, 34, 35, 36, 37, 38, 39, 40, 55, 56, 57, 58, 59, 60, 61, 62, 63, 64, 65, 66, 67, 68, 69, 70, 71, 72, 73, 74, 75, 142, 143, 144, 145, 146, 147, 148] (by decide +kernel) (by decide +kernel)) (goodIn_sub (fun _ h => List.mem_cons_of_mem _ (List.mem_append_right _ h)) (by decide +kernel))
set_option maxRecDepth 20000 in
theorem gX3_isSame_X1_pipe : GoodIn wsX3_isSame (wsV RX3 98 RX1 yX1_pipe wsX1_pipe) := goodIn_app (goodIn_of _ (by decide +kernel)) ggX3_isSame_X1_pipe
set_option maxRecDepth 20000 in
theorem ggX3_isSame_X3_water : GoodIn wsX3_isSame wsX3_water := goodIn_r _ [79, 1, 6, 122, 123, 124, 125, 126, 127, 128, 129, 130, 131, 132] (by decide +kernel) (by decide +kernel)
set_option maxRecDepth 20000 in
theorem gX3_isSame_X3_water : GoodIn wsX3_isSame (wsV RX3 101 RX3 yX3_water wsX3_water) := goodIn_app (goodIn_of _ (by decide +kernel)) ggX3_isSame_X3_water
set_option maxRecDepth 20000 in
theorem ggX3_isSame_X3_lost : GoodIn wsX3_isSame wsX3_lost := goodIn_r _ [83, 11, 19, 122, 123, 124, 133, 134, 135, 136, 137, 138, 139, 140, 141] (by decide +kernel) (by decide +kernel)
set_option maxRecDepth 20000 in
theorem gX3_isSame_X3_lost : GoodIn wsX3_isSame (wsV RX3 104 RX3 yX3_lost wsX3_lost) := goodIn_app (goodIn_of _ (by decide +kernel)) ggX3_isSame_X3_lost
set_option maxRecDepth 20000 in
theorem ggX3_isSame_X1_count : GoodIn wsX3_isSame wsX1_count := goodIn_ca (goodIn_r _ [87, 26, 38, 39, 24, 40, 33, 34, 35, 36, 37, 88, 89, 90, 58, 91, 92, 93, 94, 95, 96, 97, 98, 65, 99, 100, 101, 102, 60, 103, 104, 105, 106, 107, 108, 109, 110, 142, 143, 144, 145, 146, 147, 148] (by decide +kernel) (by decide +kernel)) (goodIn_sub (fun _ h => List.mem_cons_of_mem _ (List.mem_append_right _ h)) (by decide +kernel))
set_option maxRecDepth 20000 in
theorem gX3_isSame_X1_count : GoodIn wsX3_isSame (wsV RX3 106 RX1 yX1_count wsX1_count) := goodIn_app (goodIn_of _ (by decide +kernel)) ggX3_isSame_X1_count
set_option maxRecDepth 20000 in
theorem ggX3_isSame_X1_suspect : GoodIn wsX3_isSame wsX1_suspect := goodIn_r _ [114, 26, 54, 115, 142, 143, 144, 145, 146, 147, 148] (by decide +kernel) (by decide +kernel)
set_option maxRecDepth 20000 in
theorem gX3_isSame_X1_suspect : GoodIn wsX3_isSame (wsV RX3 110 RX1 yX1_suspect wsX1_suspect) := goodIn_app (goodIn_of _ (by decide +kernel)) ggX3_isSame_X1_suspect
set_option maxRecDepth 20000 in
theorem ggX3_isSame_X1_mean : GoodIn wsX3_isSame wsX1_mean := goodIn_r _ [119, 26, 120, 121, 96, 97, 58, 98, 93, 65, 142, 143, 144, 145, 146, 147, 148] (by decide +kernel) (by decide +kernel)
set_option maxRecDepth 20000 in
theorem gX3_isSame_X1_mean : GoodIn wsX3_isSame (wsV RX3 113 RX1 yX1_mean wsX1_mean) := goodIn_app (goodIn_of _ (by decide +kernel)) ggX3_isSame_X1_mean
theorem dX3_isSame_0 : decode cX3_isSame 0 = .ok (.iconst 0, 1) := by decide +kernel
theorem dX3_isSame_1 : decode cX3_isSame 1 = .ok (.istore_n 2, 1) := by decide +kernel
theorem dX3_isSame_2 : decode cX3_isSame 2 = .ok (.iconst 0, 1) := by decide +kernel
theorem dX3_isSame_3 : decode cX3_isSame 3 = .ok (.istore_n 3, 1) := by decide +kernel
theorem dX3_isSame_4 : decode cX3_isSame 4 = .ok (.iconst 0, 1) := by decide +kernel
theorem dX3_isSame_5 : decode cX3_isSame 5 = .ok (.istore 4, 2) := by decide +kernel
theorem dX3_isSame_7 : decode cX3_isSame 7 = .ok (.iconst 0, 1) := by decide +kernel
theorem dX3_isSame_8 : decode cX3_isSame 8 = .ok (.istore 5, 2) := by decide +kernel
theorem dX3_isSame_10 : decode cX3_isSame 10 = .ok (.iconst 0, 1) := by decide +kernel
theorem dX3_isSame_11 : decode cX3_isSame 11 = .ok (.istore 6, 2) := by decide +kernel
theorem dX3_isSame_13 : decode cX3_isSame 13 = .ok (.iload 6, 2) := by decide +kernel
theorem dX3_isSame_15 : decode cX3_isSame 15 = .ok (.aload_n 0, 1) := by decide +kernel
theorem dX3_isSame_16 : decode cX3_isSame 16 = .ok (.getfield 9, 3) := by decide +kernel
theorem dX3_isSame_19 : decode cX3_isSame 19 = .ok (.arraylength, 1) := by decide +kernel
theorem dX3_isSame_20 : decode cX3_isSame 20 = .ok (.if_icmp .ge 173, 3) := by decide +kernel
theorem dX3_isSame_23 : decode cX3_isSame 23 = .ok (.aload_n 0, 1) := by decide +kernel
theorem dX3_isSame_24 : decode cX3_isSame 24 = .ok (.getfield 9, 3) := by decide +kernel
theorem dX3_isSame_27 : decode cX3_isSame 27 = .ok (.iload 6, 2) := by decide +kernel
theorem dX3_isSame_29 : decode cX3_isSame 29 = .ok (.aaload, 1) := by decide +kernel
theorem dX3_isSame_30 : decode cX3_isSame 30 = .ok (.astore 7, 2) := by decide +kernel
theorem dX3_isSame_32 : decode cX3_isSame 32 = .ok (.bipush 8, 2) := by decide +kernel
theorem dX3_isSame_34 : decode cX3_isSame 34 = .ok (.newarray .int, 2) := by decide +kernel
theorem dX3_isSame_36 : decode cX3_isSame 36 = .ok (.dup, 1) := by decide +kernel
theorem dX3_isSame_37 : decode cX3_isSame 37 = .ok (.iconst 0, 1) := by decide +kernel
theorem dX3_isSame_38 : decode cX3_isSame 38 = .ok (.aload 7, 2) := by decide +kernel
theorem dX3_isSame_40 : decode cX3_isSame 40 = .ok (.getfield 34, 3) := by decide +kernel
theorem dX3_isSame_43 : decode cX3_isSame 43 = .ok (.iastore, 1) := by decide +kernel
theorem dX3_isSame_44 : decode cX3_isSame 44 = .ok (.dup, 1) := by decide +kernel
theorem dX3_isSame_45 : decode cX3_isSame 45 = .ok (.iconst 1, 1) := by decide +kernel
theorem dX3_isSame_46 : decode cX3_isSame 46 = .ok (.aload 7, 2) := by decide +kernel
theorem dX3_isSame_48 : decode cX3_isSame 48 = .ok (.getfield 37, 3) := by decide +kernel
theorem dX3_isSame_51 : decode cX3_isSame 51 = .ok (.iastore, 1) := by decide +kernel
theorem dX3_isSame_52 : decode cX3_isSame 52 = .ok (.dup, 1) := by decide +kernel
theorem dX3_isSame_53 : decode cX3_isSame 53 = .ok (.iconst 2, 1) := by decide +kernel
theorem dX3_isSame_54 : decode cX3_isSame 54 = .ok (.aload 7, 2) := by decide +kernel
theorem dX3_isSame_56 : decode cX3_isSame 56 = .ok (.getfield 40, 3) := by decide +kernel
theorem dX3_isSame_59 : decode cX3_isSame 59 = .ok (.iastore, 1) := by decide +kernel
theorem dX3_isSame_60 : decode cX3_isSame 60 = .ok (.dup, 1) := by decide +kernel
theorem dX3_isSame_61 : decode cX3_isSame 61 = .ok (.iconst 3, 1) := by decide +kernel
theorem dX3_isSame_62 : decode cX3_isSame 62 = .ok (.aload 7, 2) := by decide +kernel
theorem dX3_isSame_64 : decode cX3_isSame 64 = .ok (.getfield 56, 3) := by decide +kernel
theorem dX3_isSame_67 : decode cX3_isSame 67 = .ok (.iastore, 1) := by decide +kernel
theorem dX3_isSame_68 : decode cX3_isSame 68 = .ok (.dup, 1) := by decide +kernel
theorem dX3_isSame_69 : decode cX3_isSame 69 = .ok (.iconst 4, 1) := by decide +kernel
theorem dX3_isSame_70 : decode cX3_isSame 70 = .ok (.aload 7, 2) := by decide +kernel
theorem dX3_isSame_72 : decode cX3_isSame 72 = .ok (.getfield 82, 3) := by decide +kernel
theorem dX3_isSame_75 : decode cX3_isSame 75 = .ok (.iastore, 1) := by decide +kernel
theorem dX3_isSame_76 : decode cX3_isSame 76 = .ok (.dup, 1) := by decide +kernel
theorem dX3_isSame_77 : decode cX3_isSame 77 = .ok (.iconst 5, 1) := by decide +kernel
theorem dX3_isSame_78 : decode cX3_isSame 78 = .ok (.aload 7, 2) := by decide +kernel
theorem dX3_isSame_80 : decode cX3_isSame 80 = .ok (.getfield 85, 3) := by decide +kernel
theorem dX3_isSame_83 : decode cX3_isSame 83 = .ok (.iastore, 1) := by decide +kernel
theorem dX3_isSame_84 : decode cX3_isSame 84 = .ok (.dup, 1) := by decide +kernel
theorem dX3_isSame_85 : decode cX3_isSame 85 = .ok (.bipush 6, 2) := by decide +kernel
theorem dX3_isSame_87 : decode cX3_isSame 87 = .ok (.aload 7, 2) := by decide +kernel
theorem dX3_isSame_89 : decode cX3_isSame 89 = .ok (.getfield 88, 3) := by decide +kernel
theorem dX3_isSame_92 : decode cX3_isSame 92 = .ok (.iastore, 1) := by decide +kernel
theorem dX3_isSame_93 : decode cX3_isSame 93 = .ok (.dup, 1) := by decide +kernel
theorem dX3_isSame_94 : decode cX3_isSame 94 = .ok (.bipush 7, 2) := by decide +kernel
theorem dX3_isSame_96 : decode cX3_isSame 96 = .ok (.aload 7, 2) := by decide +kernel
theorem dX3_isSame_98 : decode cX3_isSame 98 = .ok (.getfield 89, 3) := by decide +kernel
theorem dX3_isSame_101 : decode cX3_isSame 101 = .ok (.iastore, 1) := by decide +kernel
theorem dX3_isSame_102 : decode cX3_isSame 102 = .ok (.astore 8, 2) := by decide +kernel
theorem dX3_isSame_104 : decode cX3_isSame 104 = .ok (.iconst 0, 1) := by decide +kernel
theorem dX3_isSame_105 : decode cX3_isSame 105 = .ok (.istore 9, 2) := by decide +kernel
theorem dX3_isSame_107 : decode cX3_isSame 107 = .ok (.iload 9, 2) := by decide +kernel
theorem dX3_isSame_109 : decode cX3_isSame 109 = .ok (.bipush 8, 2) := by decide +kernel
theorem dX3_isSame_111 : decode cX3_isSame 111 = .ok (.if_icmp .ge 27, 3) := by decide +kernel
theorem dX3_isSame_114 : decode cX3_isSame 114 = .ok (.aload_n 1, 1) := by decide +kernel
theorem dX3_isSame_115 : decode cX3_isSame 115 = .ok (.iload 6, 2) := by decide +kernel
theorem dX3_isSame_117 : decode cX3_isSame 117 = .ok (.iload 9, 2) := by decide +kernel
theorem dX3_isSame_119 : decode cX3_isSame 119 = .ok (.invokevirtual 92, 3) := by decide +kernel
theorem dX3_isSame_122 : decode cX3_isSame 122 = .ok (.aload 8, 2) := by decide +kernel
theorem dX3_isSame_124 : decode cX3_isSame 124 = .ok (.iload 9, 2) := by decide +kernel
theorem dX3_isSame_126 : decode cX3_isSame 126 = .ok (.iaload, 1) := by decide +kernel
theorem dX3_isSame_127 : decode cX3_isSame 127 = .ok (.if_icmp .eq 5, 3) := by decide +kernel
theorem dX3_isSame_130 : decode cX3_isSame 130 = .ok (.iconst 0, 1) := by decide +kernel
theorem dX3_isSame_131 : decode cX3_isSame 131 = .ok (.ireturn, 1) := by decide +kernel
theorem dX3_isSame_132 : decode cX3_isSame 132 = .ok (.iinc 9 1, 3) := by decide +kernel
theorem dX3_isSame_135 : decode cX3_isSame 135 = .ok (.goto (-28), 3) := by decide +kernel
theorem dX3_isSame_138 : decode cX3_isSame 138 = .ok (.iload_n 2, 1) := by decide +kernel
theorem dX3_isSame_139 : decode cX3_isSame 139 = .ok (.aload 7, 2) := by decide +kernel
theorem dX3_isSame_141 : decode cX3_isSame 141 = .ok (.getfield 82, 3) := by decide +kernel
theorem dX3_isSame_144 : decode cX3_isSame 144 = .ok (.iadd, 1) := by decide +kernel
theorem dX3_isSame_145 : decode cX3_isSame 145 = .ok (.istore_n 2, 1) := by decide +kernel
theorem dX3_isSame_146 : decode cX3_isSame 146 = .ok (.iload_n 3, 1) := by decide +kernel
theorem dX3_isSame_147 : decode cX3_isSame 147 = .ok (.aload 7, 2) := by decide +kernel
theorem dX3_isSame_149 : decode cX3_isSame 149 = .ok (.getfield 88, 3) := by decide +kernel
theorem dX3_isSame_152 : decode cX3_isSame 152 = .ok (.iadd, 1) := by decide +kernel
theorem dX3_isSame_153 : decode cX3_isSame 153 = .ok (.istore_n 3, 1) := by decide +kernel
theorem dX3_isSame_154 : decode cX3_isSame 154 = .ok (.iload 4, 2) := by decide +kernel
theorem dX3_isSame_156 : decode cX3_isSame 156 = .ok (.aload 7, 2) := by decide +kernel
theorem dX3_isSame_158 : decode cX3_isSame 158 = .ok (.getfield 89, 3) := by decide +kernel
theorem dX3_isSame_161 : decode cX3_isSame 161 = .ok (.iadd, 1) := by decide +kernel
theorem dX3_isSame_162 : decode cX3_isSame 162 = .ok (.istore 4, 2) := by decide +kernel
theorem dX3_isSame_164 : decode cX3_isSame 164 = .ok (.iload 5, 2) := by decide +kernel
theorem dX3_isSame_166 : decode cX3_isSame 166 = .ok (.aload 7, 2) := by decide +kernel
theorem dX3_isSame_168 : decode cX3_isSame 168 = .ok (.getfield 85, 3) := by decide +kernel
theorem dX3_isSame_171 : decode cX3_isSame 171 = .ok (.aload 7, 2) := by decide +kernel
theorem dX3_isSame_173 : decode cX3_isSame 173 = .ok (.getfield 40, 3) := by decide +kernel
theorem dX3_isSame_176 : decode cX3_isSame 176 = .ok (.if_icmp .ge 7, 3) := by decide +kernel
theorem dX3_isSame_179 : decode cX3_isSame 179 = .ok (.iconst 1, 1) := by decide +kernel
theorem dX3_isSame_180 : decode cX3_isSame 180 = .ok (.goto 4, 3) := by decide +kernel
theorem dX3_isSame_183 : decode cX3_isSame 183 = .ok (.iconst 0, 1) := by decide +kernel
theorem dX3_isSame_184 : decode cX3_isSame 184 = .ok (.iadd, 1) := by decide +kernel
theorem dX3_isSame_185 : decode cX3_isSame 185 = .ok (.istore 5, 2) := by decide +kernel
theorem dX3_isSame_187 : decode cX3_isSame 187 = .ok (.iinc 6 1, 3) := by decide +kernel
theorem dX3_isSame_190 : decode cX3_isSame 190 = .ok (.goto (-177), 3) := by decide +kernel
theorem dX3_isSame_193 : decode cX3_isSame 193 = .ok (.iconst (-1), 1) := by decide +kernel
theorem dX3_isSame_194 : decode cX3_isSame 194 = .ok (.istore 6, 2) := by decide +kernel
theorem dX3_isSame_196 : decode cX3_isSame 196 = .ok (.aload_n 0, 1) := by decide +kernel
theorem dX3_isSame_197 : decode cX3_isSame 197 = .ok (.getfield 17, 3) := by decide +kernel
theorem dX3_isSame_200 : decode cX3_isSame 200 = .ok (.arraylength, 1) := by decide +kernel
theorem dX3_isSame_201 : decode cX3_isSame 201 = .ok (.iconst 1, 1) := by decide +kernel
theorem dX3_isSame_202 : decode cX3_isSame 202 = .ok (.isub, 1) := by decide +kernel
theorem dX3_isSame_203 : decode cX3_isSame 203 = .ok (.istore 7, 2) := by decide +kernel
theorem dX3_isSame_205 : decode cX3_isSame 205 = .ok (.iload 7, 2) := by decide +kernel
theorem dX3_isSame_207 : decode cX3_isSame 207 = .ok (.ifCond .lt 169, 3) := by decide +kernel
theorem dX3_isSame_210 : decode cX3_isSame 210 = .ok (.aload_n 0, 1) := by decide +kernel
theorem dX3_isSame_211 : decode cX3_isSame 211 = .ok (.getfield 17, 3) := by decide +kernel
theorem dX3_isSame_214 : decode cX3_isSame 214 = .ok (.iload 7, 2) := by decide +kernel
theorem dX3_isSame_216 : decode cX3_isSame 216 = .ok (.aaload, 1) := by decide +kernel
theorem dX3_isSame_217 : decode cX3_isSame 217 = .ok (.astore 8, 2) := by decide +kernel
theorem dX3_isSame_219 : decode cX3_isSame 219 = .ok (.bipush 9, 2) := by decide +kernel
theorem dX3_isSame_221 : decode cX3_isSame 221 = .ok (.newarray .int, 2) := by decide +kernel
theorem dX3_isSame_223 : decode cX3_isSame 223 = .ok (.dup, 1) := by decide +kernel
theorem dX3_isSame_224 : decode cX3_isSame 224 = .ok (.iconst 0, 1) := by decide +kernel
theorem dX3_isSame_225 : decode cX3_isSame 225 = .ok (.aload 8, 2) := by decide +kernel
theorem dX3_isSame_227 : decode cX3_isSame 227 = .ok (.getfield 44, 3) := by decide +kernel
theorem dX3_isSame_230 : decode cX3_isSame 230 = .ok (.iastore, 1) := by decide +kernel
theorem dX3_isSame_231 : decode cX3_isSame 231 = .ok (.dup, 1) := by decide +kernel
theorem dX3_isSame_232 : decode cX3_isSame 232 = .ok (.iconst 1, 1) := by decide +kernel
theorem dX3_isSame_233 : decode cX3_isSame 233 = .ok (.aload 8, 2) := by decide +kernel
theorem dX3_isSame_235 : decode cX3_isSame 235 = .ok (.getfield 47, 3) := by decide +kernel
theorem dX3_isSame_238 : decode cX3_isSame 238 = .ok (.iastore, 1) := by decide +kernel
theorem dX3_isSame_239 : decode cX3_isSame 239 = .ok (.dup, 1) := by decide +kernel
theorem dX3_isSame_240 : decode cX3_isSame 240 = .ok (.iconst 2, 1) := by decide +kernel
theorem dX3_isSame_241 : decode cX3_isSame 241 = .ok (.aload 8, 2) := by decide +kernel
theorem dX3_isSame_243 : decode cX3_isSame 243 = .ok (.getfield 50, 3) := by decide +kernel
theorem dX3_isSame_246 : decode cX3_isSame 246 = .ok (.iastore, 1) := by decide +kernel
theorem dX3_isSame_247 : decode cX3_isSame 247 = .ok (.dup, 1) := by decide +kernel
theorem dX3_isSame_248 : decode cX3_isSame 248 = .ok (.iconst 3, 1) := by decide +kernel
theorem dX3_isSame_249 : decode cX3_isSame 249 = .ok (.aload 8, 2) := by decide +kernel
theorem dX3_isSame_251 : decode cX3_isSame 251 = .ok (.getfield 53, 3) := by decide +kernel
theorem dX3_isSame_254 : decode cX3_isSame 254 = .ok (.iastore, 1) := by decide +kernel
theorem dX3_isSame_255 : decode cX3_isSame 255 = .ok (.dup, 1) := by decide +kernel
theorem dX3_isSame_256 : decode cX3_isSame 256 = .ok (.iconst 4, 1) := by decide +kernel
theorem dX3_isSame_257 : decode cX3_isSame 257 = .ok (.aload 8, 2) := by decide +kernel
theorem dX3_isSame_259 : decode cX3_isSame 259 = .ok (.getfield 59, 3) := by decide +kernel
theorem dX3_isSame_262 : decode cX3_isSame 262 = .ok (.iastore, 1) := by decide +kernel
theorem dX3_isSame_263 : decode cX3_isSame 263 = .ok (.dup, 1) := by decide +kernel
theorem dX3_isSame_264 : decode cX3_isSame 264 = .ok (.iconst 5, 1) := by decide +kernel
theorem dX3_isSame_265 : decode cX3_isSame 265 = .ok (.aload 8, 2) := by decide +kernel
theorem dX3_isSame_267 : decode cX3_isSame 267 = .ok (.getfield 70, 3) := by decide +kernel
theorem dX3_isSame_270 : decode cX3_isSame 270 = .ok (.iastore, 1) := by decide +kernel
theorem dX3_isSame_271 : decode cX3_isSame 271 = .ok (.dup, 1) := by decide +kernel
theorem dX3_isSame_272 : decode cX3_isSame 272 = .ok (.bipush 6, 2) := by decide +kernel
theorem dX3_isSame_274 : decode cX3_isSame 274 = .ok (.aload 8, 2) := by decide +kernel
theorem dX3_isSame_276 : decode cX3_isSame 276 = .ok (.getfield 76, 3) := by decide +kernel
theorem dX3_isSame_279 : decode cX3_isSame 279 = .ok (.iastore, 1) := by decide +kernel
theorem dX3_isSame_280 : decode cX3_isSame 280 = .ok (.dup, 1) := by decide +kernel
theorem dX3_isSame_281 : decode cX3_isSame 281 = .ok (.bipush 7, 2) := by decide +kernel
theorem dX3_isSame_283 : decode cX3_isSame 283 = .ok (.aload 8, 2) := by decide +kernel
theorem dX3_isSame_285 : decode cX3_isSame 285 = .ok (.getfield 79, 3) := by decide +kernel
theorem dX3_isSame_288 : decode cX3_isSame 288 = .ok (.iastore, 1) := by decide +kernel
theorem dX3_isSame_289 : decode cX3_isSame 289 = .ok (.dup, 1) := by decide +kernel
theorem dX3_isSame_290 : decode cX3_isSame 290 = .ok (.bipush 8, 2) := by decide +kernel
theorem dX3_isSame_292 : decode cX3_isSame 292 = .ok (.aload_n 0, 1) := by decide +kernel
theorem dX3_isSame_293 : decode cX3_isSame 293 = .ok (.aload 8, 2) := by decide +kernel
theorem dX3_isSame_295 : decode cX3_isSame 295 = .ok (.invokevirtual 66, 3) := by decide +kernel
theorem dX3_isSame_298 : decode cX3_isSame 298 = .ok (.iastore, 1) := by decide +kernel
theorem dX3_isSame_299 : decode cX3_isSame 299 = .ok (.astore 9, 2) := by decide +kernel
theorem dX3_isSame_301 : decode cX3_isSame 301 = .ok (.iconst 0, 1) := by decide +kernel
theorem dX3_isSame_302 : decode cX3_isSame 302 = .ok (.istore 10, 2) := by decide +kernel
theorem dX3_isSame_304 : decode cX3_isSame 304 = .ok (.iload 10, 2) := by decide +kernel
theorem dX3_isSame_306 : decode cX3_isSame 306 = .ok (.bipush 9, 2) := by decide +kernel
theorem dX3_isSame_308 : decode cX3_isSame 308 = .ok (.if_icmp .ge 27, 3) := by decide +kernel
theorem dX3_isSame_311 : decode cX3_isSame 311 = .ok (.aload_n 1, 1) := by decide +kernel
theorem dX3_isSame_312 : decode cX3_isSame 312 = .ok (.iload 7, 2) := by decide +kernel
theorem dX3_isSame_314 : decode cX3_isSame 314 = .ok (.iload 10, 2) := by decide +kernel
theorem dX3_isSame_316 : decode cX3_isSame 316 = .ok (.invokevirtual 98, 3) := by decide +kernel
theorem dX3_isSame_319 : decode cX3_isSame 319 = .ok (.aload 9, 2) := by decide +kernel
theorem dX3_isSame_321 : decode cX3_isSame 321 = .ok (.iload 10, 2) := by decide +kernel
theorem dX3_isSame_323 : decode cX3_isSame 323 = .ok (.iaload, 1) := by decide +kernel
theorem dX3_isSame_324 : decode cX3_isSame 324 = .ok (.if_icmp .eq 5, 3) := by decide +kernel
theorem dX3_isSame_327 : decode cX3_isSame 327 = .ok (.iconst 0, 1) := by decide +kernel
theorem dX3_isSame_328 : decode cX3_isSame 328 = .ok (.ireturn, 1) := by decide +kernel
theorem dX3_isSame_329 : decode cX3_isSame 329 = .ok (.iinc 10 1, 3) := by decide +kernel
theorem dX3_isSame_332 : decode cX3_isSame 332 = .ok (.goto (-28), 3) := by decide +kernel
theorem dX3_isSame_335 : decode cX3_isSame 335 = .ok (.aload 8, 2) := by decide +kernel
theorem dX3_isSame_337 : decode cX3_isSame 337 = .ok (.getfield 76, 3) := by decide +kernel
theorem dX3_isSame_340 : decode cX3_isSame 340 = .ok (.ifCond .le 30, 3) := by decide +kernel
theorem dX3_isSame_343 : decode cX3_isSame 343 = .ok (.iload 6, 2) := by decide +kernel
theorem dX3_isSame_345 : decode cX3_isSame 345 = .ok (.ifCond .lt 21, 3) := by decide +kernel
theorem dX3_isSame_348 : decode cX3_isSame 348 = .ok (.aload 8, 2) := by decide +kernel
theorem dX3_isSame_350 : decode cX3_isSame 350 = .ok (.getfield 76, 3) := by decide +kernel
theorem dX3_isSame_353 : decode cX3_isSame 353 = .ok (.aload_n 0, 1) := by decide +kernel
theorem dX3_isSame_354 : decode cX3_isSame 354 = .ok (.getfield 17, 3) := by decide +kernel
theorem dX3_isSame_357 : decode cX3_isSame 357 = .ok (.iload 6, 2) := by decide +kernel
theorem dX3_isSame_359 : decode cX3_isSame 359 = .ok (.aaload, 1) := by decide +kernel
theorem dX3_isSame_360 : decode cX3_isSame 360 = .ok (.getfield 76, 3) := by decide +kernel
theorem dX3_isSame_363 : decode cX3_isSame 363 = .ok (.if_icmp .lt 7, 3) := by decide +kernel
theorem dX3_isSame_366 : decode cX3_isSame 366 = .ok (.iload 7, 2) := by decide +kernel
theorem dX3_isSame_368 : decode cX3_isSame 368 = .ok (.istore 6, 2) := by decide +kernel
theorem dX3_isSame_370 : decode cX3_isSame 370 = .ok (.iinc 7 (-1), 3) := by decide +kernel
theorem dX3_isSame_373 : decode cX3_isSame 373 = .ok (.goto (-168), 3) := by decide +kernel
theorem dX3_isSame_376 : decode cX3_isSame 376 = .ok (.bipush 9, 2) := by decide +kernel
theorem dX3_isSame_378 : decode cX3_isSame 378 = .ok (.newarray .int, 2) := by decide +kernel
theorem dX3_isSame_380 : decode cX3_isSame 380 = .ok (.dup, 1) := by decide +kernel
theorem dX3_isSame_381 : decode cX3_isSame 381 = .ok (.iconst 0, 1) := by decide +kernel
theorem dX3_isSame_382 : decode cX3_isSame 382 = .ok (.aload_n 0, 1) := by decide +kernel
theorem dX3_isSame_383 : decode cX3_isSame 383 = .ok (.getfield 29, 3) := by decide +kernel
theorem dX3_isSame_386 : decode cX3_isSame 386 = .ok (.iastore, 1) := by decide +kernel
theorem dX3_isSame_387 : decode cX3_isSame 387 = .ok (.dup, 1) := by decide +kernel
theorem dX3_isSame_388 : decode cX3_isSame 388 = .ok (.iconst 1, 1) := by decide +kernel
theorem dX3_isSame_389 : decode cX3_isSame 389 = .ok (.aload_n 0, 1) := by decide +kernel
theorem dX3_isSame_390 : decode cX3_isSame 390 = .ok (.getfield 9, 3) := by decide +kernel
theorem dX3_isSame_393 : decode cX3_isSame 393 = .ok (.arraylength, 1) := by decide +kernel
theorem dX3_isSame_394 : decode cX3_isSame 394 = .ok (.iastore, 1) := by decide +kernel
theorem dX3_isSame_395 : decode cX3_isSame 395 = .ok (.dup, 1) := by decide +kernel
theorem dX3_isSame_396 : decode cX3_isSame 396 = .ok (.iconst 2, 1) := by decide +kernel
theorem dX3_isSame_397 : decode cX3_isSame 397 = .ok (.aload_n 0, 1) := by decide +kernel
theorem dX3_isSame_398 : decode cX3_isSame 398 = .ok (.getfield 17, 3) := by decide +kernel
theorem dX3_isSame_401 : decode cX3_isSame 401 = .ok (.arraylength, 1) := by decide +kernel
theorem dX3_isSame_402 : decode cX3_isSame 402 = .ok (.iastore, 1) := by decide +kernel
theorem dX3_isSame_403 : decode cX3_isSame 403 = .ok (.dup, 1) := by decide +kernel
theorem dX3_isSame_404 : decode cX3_isSame 404 = .ok (.iconst 3, 1) := by decide +kernel
theorem dX3_isSame_405 : decode cX3_isSame 405 = .ok (.aload_n 0, 1) := by decide +kernel
theorem dX3_isSame_406 : decode cX3_isSame 406 = .ok (.invokevirtual 101, 3) := by decide +kernel
theorem dX3_isSame_409 : decode cX3_isSame 409 = .ok (.iastore, 1) := by decide +kernel
theorem dX3_isSame_410 : decode cX3_isSame 410 = .ok (.dup, 1) := by decide +kernel
theorem dX3_isSame_411 : decode cX3_isSame 411 = .ok (.iconst 4, 1) := by decide +kernel
theorem dX3_isSame_412 : decode cX3_isSame 412 = .ok (.iload_n 2, 1) := by decide +kernel
theorem dX3_isSame_413 : decode cX3_isSame 413 = .ok (.iastore, 1) := by decide +kernel
theorem dX3_isSame_414 : decode cX3_isSame 414 = .ok (.dup, 1) := by decide +kernel
theorem dX3_isSame_415 : decode cX3_isSame 415 = .ok (.iconst 5, 1) := by decide +kernel
theorem dX3_isSame_416 : decode cX3_isSame 416 = .ok (.iload_n 3, 1) := by decide +kernel
theorem dX3_isSame_417 : decode cX3_isSame 417 = .ok (.iastore, 1) := by decide +kernel
theorem dX3_isSame_418 : decode cX3_isSame 418 = .ok (.dup, 1) := by decide +kernel
theorem dX3_isSame_419 : decode cX3_isSame 419 = .ok (.bipush 6, 2) := by decide +kernel
theorem dX3_isSame_421 : decode cX3_isSame 421 = .ok (.aload_n 0, 1) := by decide +kernel
theorem dX3_isSame_422 : decode cX3_isSame 422 = .ok (.invokevirtual 104, 3) := by decide +kernel
theorem dX3_isSame_425 : decode cX3_isSame 425 = .ok (.iastore, 1) := by decide +kernel
theorem dX3_isSame_426 : decode cX3_isSame 426 = .ok (.dup, 1) := by decide +kernel
theorem dX3_isSame_427 : decode cX3_isSame 427 = .ok (.bipush 7, 2) := by decide +kernel
theorem dX3_isSame_429 : decode cX3_isSame 429 = .ok (.iload 4, 2) := by decide +kernel
theorem dX3_isSame_431 : decode cX3_isSame 431 = .ok (.iastore, 1) := by decide +kernel
theorem dX3_isSame_432 : decode cX3_isSame 432 = .ok (.dup, 1) := by decide +kernel
theorem dX3_isSame_433 : decode cX3_isSame 433 = .ok (.bipush 8, 2) := by decide +kernel
theorem dX3_isSame_435 : decode cX3_isSame 435 = .ok (.iload 5, 2) := by decide +kernel
theorem dX3_isSame_437 : decode cX3_isSame 437 = .ok (.iastore, 1) := by decide +kernel
theorem dX3_isSame_438 : decode cX3_isSame 438 = .ok (.astore 7, 2) := by decide +kernel
theorem dX3_isSame_440 : decode cX3_isSame 440 = .ok (.iconst 0, 1) := by decide +kernel
theorem dX3_isSame_441 : decode cX3_isSame 441 = .ok (.istore 8, 2) := by decide +kernel
theorem dX3_isSame_443 : decode cX3_isSame 443 = .ok (.iload 8, 2) := by decide +kernel
theorem dX3_isSame_445 : decode cX3_isSame 445 = .ok (.bipush 9, 2) := by decide +kernel
theorem dX3_isSame_447 : decode cX3_isSame 447 = .ok (.if_icmp .ge 25, 3) := by decide +kernel
theorem dX3_isSame_450 : decode cX3_isSame 450 = .ok (.aload_n 1, 1) := by decide +kernel
theorem dX3_isSame_451 : decode cX3_isSame 451 = .ok (.iload 8, 2) := by decide +kernel
theorem dX3_isSame_453 : decode cX3_isSame 453 = .ok (.invokevirtual 106, 3) := by decide +kernel
theorem dX3_isSame_456 : decode cX3_isSame 456 = .ok (.aload 7, 2) := by decide +kernel
theorem dX3_isSame_458 : decode cX3_isSame 458 = .ok (.iload 8, 2) := by decide +kernel
theorem dX3_isSame_460 : decode cX3_isSame 460 = .ok (.iaload, 1) := by decide +kernel
theorem dX3_isSame_461 : decode cX3_isSame 461 = .ok (.if_icmp .eq 5, 3) := by decide +kernel
theorem dX3_isSame_464 : decode cX3_isSame 464 = .ok (.iconst 0, 1) := by decide +kernel
theorem dX3_isSame_465 : decode cX3_isSame 465 = .ok (.ireturn, 1) := by decide +kernel
theorem dX3_isSame_466 : decode cX3_isSame 466 = .ok (.iinc 8 1, 3) := by decide +kernel
theorem dX3_isSame_469 : decode cX3_isSame 469 = .ok (.goto (-26), 3) := by decide +kernel
theorem dX3_isSame_472 : decode cX3_isSame 472 = .ok (.aload_n 1, 1) := by decide +kernel
theorem dX3_isSame_473 : decode cX3_isSame 473 = .ok (.invokevirtual 110, 3) := by decide +kernel
theorem dX3_isSame_476 : decode cX3_isSame 476 = .ok (.iload 6, 2) := by decide +kernel
theorem dX3_isSame_478 : decode cX3_isSame 478 = .ok (.if_icmp .ne 34, 3) := by decide +kernel
theorem dX3_isSame_481 : decode cX3_isSame 481 = .ok (.aload_n 1, 1) := by decide +kernel
theorem dX3_isSame_482 : decode cX3_isSame 482 = .ok (.invokevirtual 113, 3) := by decide +kernel
theorem dX3_isSame_485 : decode cX3_isSame 485 = .ok (.aload_n 0, 1) := by decide +kernel
theorem dX3_isSame_486 : decode cX3_isSame 486 = .ok (.getfield 29, 3) := by decide +kernel
theorem dX3_isSame_489 : decode cX3_isSame 489 = .ok (.ifCond .ne 7, 3) := by decide +kernel
theorem dX3_isSame_492 : decode cX3_isSame 492 = .ok (.dconst 0, 1) := by decide +kernel
theorem dX3_isSame_493 : decode cX3_isSame 493 = .ok (.goto 11, 3) := by decide +kernel
theorem dX3_isSame_496 : decode cX3_isSame 496 = .ok (.iload_n 3, 1) := by decide +kernel
theorem dX3_isSame_497 : decode cX3_isSame 497 = .ok (.i2d, 1) := by decide +kernel
theorem dX3_isSame_498 : decode cX3_isSame 498 = .ok (.aload_n 0, 1) := by decide +kernel
theorem dX3_isSame_499 : decode cX3_isSame 499 = .ok (.getfield 29, 3) := by decide +kernel
theorem dX3_isSame_502 : decode cX3_isSame 502 = .ok (.i2d, 1) := by decide +kernel
theorem dX3_isSame_503 : decode cX3_isSame 503 = .ok (.ddiv, 1) := by decide +kernel
theorem dX3_isSame_504 : decode cX3_isSame 504 = .ok (.dcmp .l, 1) := by decide +kernel
theorem dX3_isSame_505 : decode cX3_isSame 505 = .ok (.ifCond .ne 7, 3) := by decide +kernel
theorem dX3_isSame_508 : decode cX3_isSame 508 = .ok (.iconst 1, 1) := by decide +kernel
theorem dX3_isSame_509 : decode cX3_isSame 509 = .ok (.goto 4, 3) := by decide +kernel
theorem dX3_isSame_512 : decode cX3_isSame 512 = .ok (.iconst 0, 1) := by decide +kernel
theorem dX3_isSame_513 : decode cX3_isSame 513 = .ok (.ireturn, 1) := by decide +kernel
theorem dX4_init_0 : decode cX4_init 0 = .ok (.aload_n 0, 1) := by decide +kernel
theorem dX4_init_1 : decode cX4_init 1 = .ok (.invokespecial 1, 3) := by decide +kernel
theorem dX4_init_4 : decode cX4_init 4 = .ok (.return_, 1) := by decide +kernel
theorem dX4_comes_0 : decode cX4_comes 0 = .ok (.aload_n 0, 1) := by decide +kernel
theorem dX4_comes_1 : decode cX4_comes 1 = .ok (.dup, 1) := by decide +kernel
theorem dX4_comes_2 : decode cX4_comes 2 = .ok (.getfield 20, 3) := by decide +kernel
theorem dX4_comes_5 : decode cX4_comes 5 = .ok (.iload_n 1, 1) := by decide +kernel
theorem dX4_comes_6 : decode cX4_comes 6 = .ok (.iadd, 1) := by decide +kernel
theorem dX4_comes_7 : decode cX4_comes 7 = .ok (.putfield 20, 3) := by decide +kernel
theorem dX4_comes_10 : decode cX4_comes 10 = .ok (.aload_n 0, 1) := by decide +kernel
theorem dX4_comes_11 : decode cX4_comes 11 = .ok (.aload_n 0, 1) := by decide +kernel
theorem dX4_comes_12 : decode cX4_comes 12 = .ok (.getfield 23, 3) := by decide +kernel
theorem dX4_comes_15 : decode cX4_comes 15 = .ok (.iload_n 2, 1) := by decide +kernel
theorem dX4_comes_16 : decode cX4_comes 16 = .ok (.iadd, 1) := by decide +kernel
theorem dX4_comes_17 : decode cX4_comes 17 = .ok (.bipush 99, 2) := by decide +kernel
theorem dX4_comes_19 : decode cX4_comes 19 = .ok (.if_icmp .le 8, 3) := by decide +kernel
theorem dX4_comes_22 : decode cX4_comes 22 = .ok (.bipush 99, 2) := by decide +kernel
theorem dX4_comes_24 : decode cX4_comes 24 = .ok (.goto 9, 3) := by decide +kernel
theorem dX4_comes_27 : decode cX4_comes 27 = .ok (.aload_n 0, 1) := by decide +kernel
theorem dX4_comes_28 : decode cX4_comes 28 = .ok (.getfield 23, 3) := by decide +kernel
theorem dX4_comes_31 : decode cX4_comes 31 = .ok (.iload_n 2, 1) := by decide +kernel
theorem dX4_comes_32 : decode cX4_comes 32 = .ok (.iadd, 1) := by decide +kernel
theorem dX4_comes_33 : decode cX4_comes 33 = .ok (.putfield 23, 3) := by decide +kernel
theorem dX4_comes_36 : decode cX4_comes 36 = .ok (.aload_n 0, 1) := by decide +kernel
theorem dX4_comes_37 : decode cX4_comes 37 = .ok (.getfield 20, 3) := by decide +kernel
theorem dX4_comes_40 : decode cX4_comes 40 = .ok (.sipush 200, 3) := by decide +kernel
theorem dX4_comes_43 : decode cX4_comes 43 = .ok (.if_icmp .gt 4, 3) := by decide +kernel
theorem dX4_comes_46 : decode cX4_comes 46 = .ok (.return_, 1) := by decide +kernel
theorem dX4_comes_47 : decode cX4_comes 47 = .ok (.aload_n 0, 1) := by decide +kernel
theorem dX4_comes_48 : decode cX4_comes 48 = .ok (.dup, 1) := by decide +kernel
theorem dX4_comes_49 : decode cX4_comes 49 = .ok (.getfield 26, 3) := by decide +kernel
theorem dX4_comes_52 : decode cX4_comes 52 = .ok (.aload_n 0, 1) := by decide +kernel
theorem dX4_comes_53 : decode cX4_comes 53 = .ok (.getfield 20, 3) := by decide +kernel
theorem dX4_comes_56 : decode cX4_comes 56 = .ok (.sipush 200, 3) := by decide +kernel
theorem dX4_comes_59 : decode cX4_comes 59 = .ok (.isub, 1) := by decide +kernel
theorem dX4_comes_60 : decode cX4_comes 60 = .ok (.iadd, 1) := by decide +kernel
theorem dX4_comes_61 : decode cX4_comes 61 = .ok (.putfield 26, 3) := by decide +kernel
theorem dX4_comes_64 : decode cX4_comes 64 = .ok (.aload_n 0, 1) := by decide +kernel
theorem dX4_comes_65 : decode cX4_comes 65 = .ok (.sipush 200, 3) := by decide +kernel
theorem dX4_comes_68 : decode cX4_comes 68 = .ok (.putfield 20, 3) := by decide +kernel
theorem dX4_comes_71 : decode cX4_comes 71 = .ok (.return_, 1) := by decide +kernel

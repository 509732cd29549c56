theorem dX0_init_0 : decode cX0_init 0 = .ok (.aload_n 0, 1) := by decide +kernel
theorem dX0_init_1 : decode cX0_init 1 = .ok (.invokespecial 3, 3) := by decide +kernel
theorem dX0_init_4 : decode cX0_init 4 = .ok (.aload_n 0, 1) := by decide +kernel
theorem dX0_init_5 : decode cX0_init 5 = .ok (.bipush 10, 2) := by decide +kernel
theorem dX0_init_7 : decode cX0_init 7 = .ok (.bipush 8, 2) := by decide +kernel
theorem dX0_init_9 : decode cX0_init 9 = .ok (.multianewarray 11 2, 4) := by decide +kernel
theorem dX0_init_13 : decode cX0_init 13 = .ok (.putfield 13, 3) := by decide +kernel
theorem dX0_init_16 : decode cX0_init 16 = .ok (.aload_n 0, 1) := by decide +kernel
theorem dX0_init_17 : decode cX0_init 17 = .ok (.bipush 14, 2) := by decide +kernel
theorem dX0_init_19 : decode cX0_init 19 = .ok (.bipush 10, 2) := by decide +kernel
theorem dX0_init_21 : decode cX0_init 21 = .ok (.multianewarray 11 2, 4) := by decide +kernel
theorem dX0_init_25 : decode cX0_init 25 = .ok (.putfield 16, 3) := by decide +kernel
theorem dX0_init_28 : decode cX0_init 28 = .ok (.return_, 1) := by decide +kernel
theorem dX0_addTank_0 : decode cX0_addTank 0 = .ok (.aload_n 0, 1) := by decide +kernel
theorem dX0_addTank_1 : decode cX0_addTank 1 = .ok (.getfield 19, 3) := by decide +kernel
theorem dX0_addTank_4 : decode cX0_addTank 4 = .ok (.bipush 10, 2) := by decide +kernel
theorem dX0_addTank_6 : decode cX0_addTank 6 = .ok (.if_icmp .lt 5, 3) := by decide +kernel
theorem dX0_addTank_9 : decode cX0_addTank 9 = .ok (.iconst (-1), 1) := by decide +kernel
theorem dX0_addTank_10 : decode cX0_addTank 10 = .ok (.ireturn, 1) := by decide +kernel
theorem dX0_addTank_11 : decode cX0_addTank 11 = .ok (.aload_n 0, 1) := by decide +kernel
theorem dX0_addTank_12 : decode cX0_addTank 12 = .ok (.getfield 13, 3) := by decide +kernel
theorem dX0_addTank_15 : decode cX0_addTank 15 = .ok (.aload_n 0, 1) := by decide +kernel
theorem dX0_addTank_16 : decode cX0_addTank 16 = .ok (.getfield 19, 3) := by decide +kernel
theorem dX0_addTank_19 : decode cX0_addTank 19 = .ok (.aaload, 1) := by decide +kernel
theorem dX0_addTank_20 : decode cX0_addTank 20 = .ok (.astore 4, 2) := by decide +kernel
theorem dX0_addTank_22 : decode cX0_addTank 22 = .ok (.aload 4, 2) := by decide +kernel
theorem dX0_addTank_24 : decode cX0_addTank 24 = .ok (.iconst 0, 1) := by decide +kernel
theorem dX0_addTank_25 : decode cX0_addTank 25 = .ok (.iload_n 1, 1) := by decide +kernel
theorem dX0_addTank_26 : decode cX0_addTank 26 = .ok (.iastore, 1) := by decide +kernel
theorem dX0_addTank_27 : decode cX0_addTank 27 = .ok (.aload 4, 2) := by decide +kernel
theorem dX0_addTank_29 : decode cX0_addTank 29 = .ok (.iconst 1, 1) := by decide +kernel
theorem dX0_addTank_30 : decode cX0_addTank 30 = .ok (.iload_n 2, 1) := by decide +kernel
theorem dX0_addTank_31 : decode cX0_addTank 31 = .ok (.iastore, 1) := by decide +kernel
theorem dX0_addTank_32 : decode cX0_addTank 32 = .ok (.aload 4, 2) := by decide +kernel
theorem dX0_addTank_34 : decode cX0_addTank 34 = .ok (.iconst 2, 1) := by decide +kernel
theorem dX0_addTank_35 : decode cX0_addTank 35 = .ok (.iload_n 3, 1) := by decide +kernel
theorem dX0_addTank_36 : decode cX0_addTank 36 = .ok (.iastore, 1) := by decide +kernel
theorem dX0_addTank_37 : decode cX0_addTank 37 = .ok (.aload_n 0, 1) := by decide +kernel
theorem dX0_addTank_38 : decode cX0_addTank 38 = .ok (.dup, 1) := by decide +kernel
theorem dX0_addTank_39 : decode cX0_addTank 39 = .ok (.getfield 19, 3) := by decide +kernel
theorem dX0_addTank_42 : decode cX0_addTank 42 = .ok (.iconst 1, 1) := by decide +kernel
theorem dX0_addTank_43 : decode cX0_addTank 43 = .ok (.iadd, 1) := by decide +kernel
theorem dX0_addTank_44 : decode cX0_addTank 44 = .ok (.putfield 19, 3) := by decide +kernel
theorem dX0_addTank_47 : decode cX0_addTank 47 = .ok (.aload_n 0, 1) := by decide +kernel
theorem dX0_addTank_48 : decode cX0_addTank 48 = .ok (.getfield 19, 3) := by decide +kernel
theorem dX0_addTank_51 : decode cX0_addTank 51 = .ok (.iconst 1, 1) := by decide +kernel
theorem dX0_addTank_52 : decode cX0_addTank 52 = .ok (.isub, 1) := by decide +kernel
theorem dX0_addTank_53 : decode cX0_addTank 53 = .ok (.ireturn, 1) := by decide +kernel
theorem dX0_addPipe_0 : decode cX0_addPipe 0 = .ok (.aload_n 0, 1) := by decide +kernel
theorem dX0_addPipe_1 : decode cX0_addPipe 1 = .ok (.getfield 23, 3) := by decide +kernel
theorem dX0_addPipe_4 : decode cX0_addPipe 4 = .ok (.bipush 14, 2) := by decide +kernel
theorem dX0_addPipe_6 : decode cX0_addPipe 6 = .ok (.if_icmp .lt 5, 3) := by decide +kernel
theorem dX0_addPipe_9 : decode cX0_addPipe 9 = .ok (.iconst (-1), 1) := by decide +kernel
theorem dX0_addPipe_10 : decode cX0_addPipe 10 = .ok (.ireturn, 1) := by decide +kernel
theorem dX0_addPipe_11 : decode cX0_addPipe 11 = .ok (.aload_n 0, 1) := by decide +kernel
theorem dX0_addPipe_12 : decode cX0_addPipe 12 = .ok (.getfield 16, 3) := by decide +kernel
theorem dX0_addPipe_15 : decode cX0_addPipe 15 = .ok (.aload_n 0, 1) := by decide +kernel
theorem dX0_addPipe_16 : decode cX0_addPipe 16 = .ok (.getfield 23, 3) := by decide +kernel
theorem dX0_addPipe_19 : decode cX0_addPipe 19 = .ok (.aaload, 1) := by decide +kernel
theorem dX0_addPipe_20 : decode cX0_addPipe 20 = .ok (.astore 5, 2) := by decide +kernel
theorem dX0_addPipe_22 : decode cX0_addPipe 22 = .ok (.aload 5, 2) := by decide +kernel
theorem dX0_addPipe_24 : decode cX0_addPipe 24 = .ok (.iconst 0, 1) := by decide +kernel
theorem dX0_addPipe_25 : decode cX0_addPipe 25 = .ok (.iload_n 1, 1) := by decide +kernel
theorem dX0_addPipe_26 : decode cX0_addPipe 26 = .ok (.iastore, 1) := by decide +kernel
theorem dX0_addPipe_27 : decode cX0_addPipe 27 = .ok (.aload 5, 2) := by decide +kernel
theorem dX0_addPipe_29 : decode cX0_addPipe 29 = .ok (.iconst 1, 1) := by decide +kernel
theorem dX0_addPipe_30 : decode cX0_addPipe 30 = .ok (.iload_n 2, 1) := by decide +kernel
theorem dX0_addPipe_31 : decode cX0_addPipe 31 = .ok (.iastore, 1) := by decide +kernel
theorem dX0_addPipe_32 : decode cX0_addPipe 32 = .ok (.aload 5, 2) := by decide +kernel
theorem dX0_addPipe_34 : decode cX0_addPipe 34 = .ok (.iconst 2, 1) := by decide +kernel
theorem dX0_addPipe_35 : decode cX0_addPipe 35 = .ok (.iload_n 3, 1) := by decide +kernel
theorem dX0_addPipe_36 : decode cX0_addPipe 36 = .ok (.iastore, 1) := by decide +kernel
theorem dX0_addPipe_37 : decode cX0_addPipe 37 = .ok (.aload 5, 2) := by decide +kernel
theorem dX0_addPipe_39 : decode cX0_addPipe 39 = .ok (.iconst 3, 1) := by decide +kernel
theorem dX0_addPipe_40 : decode cX0_addPipe 40 = .ok (.iload 4, 2) := by decide +kernel
theorem dX0_addPipe_42 : decode cX0_addPipe 42 = .ok (.iastore, 1) := by decide +kernel
theorem dX0_addPipe_43 : decode cX0_addPipe 43 = .ok (.aload_n 0, 1) := by decide +kernel
theorem dX0_addPipe_44 : decode cX0_addPipe 44 = .ok (.dup, 1) := by decide +kernel
theorem dX0_addPipe_45 : decode cX0_addPipe 45 = .ok (.getfield 23, 3) := by decide +kernel
theorem dX0_addPipe_48 : decode cX0_addPipe 48 = .ok (.iconst 1, 1) := by decide +kernel
theorem dX0_addPipe_49 : decode cX0_addPipe 49 = .ok (.iadd, 1) := by decide +kernel
theorem dX0_addPipe_50 : decode cX0_addPipe 50 = .ok (.putfield 23, 3) := by decide +kernel
theorem dX0_addPipe_53 : decode cX0_addPipe 53 = .ok (.aload_n 0, 1) := by decide +kernel
theorem dX0_addPipe_54 : decode cX0_addPipe 54 = .ok (.getfield 23, 3) := by decide +kernel
theorem dX0_addPipe_57 : decode cX0_addPipe 57 = .ok (.iconst 1, 1) := by decide +kernel
theorem dX0_addPipe_58 : decode cX0_addPipe 58 = .ok (.isub, 1) := by decide +kernel
theorem dX0_addPipe_59 : decode cX0_addPipe 59 = .ok (.ireturn, 1) := by decide +kernel
theorem dX0_copyFrom_0 : decode cX0_copyFrom 0 = .ok (.aload_n 0, 1) := by decide +kernel
theorem dX0_copyFrom_1 : decode cX0_copyFrom 1 = .ok (.aload_n 1, 1) := by decide +kernel
theorem dX0_copyFrom_2 : decode cX0_copyFrom 2 = .ok (.getfield 26, 3) := by decide +kernel
theorem dX0_copyFrom_5 : decode cX0_copyFrom 5 = .ok (.putfield 26, 3) := by decide +kernel
theorem dX0_copyFrom_8 : decode cX0_copyFrom 8 = .ok (.aload_n 0, 1) := by decide +kernel
theorem dX0_copyFrom_9 : decode cX0_copyFrom 9 = .ok (.aload_n 1, 1) := by decide +kernel
theorem dX0_copyFrom_10 : decode cX0_copyFrom 10 = .ok (.getfield 19, 3) := by decide +kernel
theorem dX0_copyFrom_13 : decode cX0_copyFrom 13 = .ok (.putfield 19, 3) := by decide +kernel
theorem dX0_copyFrom_16 : decode cX0_copyFrom 16 = .ok (.aload_n 0, 1) := by decide +kernel
theorem dX0_copyFrom_17 : decode cX0_copyFrom 17 = .ok (.aload_n 1, 1) := by decide +kernel
theorem dX0_copyFrom_18 : decode cX0_copyFrom 18 = .ok (.getfield 23, 3) := by decide +kernel
theorem dX0_copyFrom_21 : decode cX0_copyFrom 21 = .ok (.putfield 23, 3) := by decide +kernel
theorem dX0_copyFrom_24 : decode cX0_copyFrom 24 = .ok (.iconst 0, 1) := by decide +kernel
theorem dX0_copyFrom_25 : decode cX0_copyFrom 25 = .ok (.istore_n 2, 1) := by decide +kernel
theorem dX0_copyFrom_26 : decode cX0_copyFrom 26 = .ok (.iload_n 2, 1) := by decide +kernel
theorem dX0_copyFrom_27 : decode cX0_copyFrom 27 = .ok (.aload_n 0, 1) := by decide +kernel
theorem dX0_copyFrom_28 : decode cX0_copyFrom 28 = .ok (.getfield 19, 3) := by decide +kernel
theorem dX0_copyFrom_31 : decode cX0_copyFrom 31 = .ok (.if_icmp .ge 28, 3) := by decide +kernel
theorem dX0_copyFrom_34 : decode cX0_copyFrom 34 = .ok (.aload_n 1, 1) := by decide +kernel
theorem dX0_copyFrom_35 : decode cX0_copyFrom 35 = .ok (.getfield 13, 3) := by decide +kernel
theorem dX0_copyFrom_38 : decode cX0_copyFrom 38 = .ok (.iload_n 2, 1) := by decide +kernel
theorem dX0_copyFrom_39 : decode cX0_copyFrom 39 = .ok (.aaload, 1) := by decide +kernel
theorem dX0_copyFrom_40 : decode cX0_copyFrom 40 = .ok (.iconst 0, 1) := by decide +kernel
theorem dX0_copyFrom_41 : decode cX0_copyFrom 41 = .ok (.aload_n 0, 1) := by decide +kernel
theorem dX0_copyFrom_42 : decode cX0_copyFrom 42 = .ok (.getfield 13, 3) := by decide +kernel
theorem dX0_copyFrom_45 : decode cX0_copyFrom 45 = .ok (.iload_n 2, 1) := by decide +kernel
theorem dX0_copyFrom_46 : decode cX0_copyFrom 46 = .ok (.aaload, 1) := by decide +kernel
theorem dX0_copyFrom_47 : decode cX0_copyFrom 47 = .ok (.iconst 0, 1) := by decide +kernel
theorem dX0_copyFrom_48 : decode cX0_copyFrom 48 = .ok (.bipush 8, 2) := by decide +kernel
theorem dX0_copyFrom_50 : decode cX0_copyFrom 50 = .ok (.invokestatic 29, 3) := by decide +kernel
theorem dX0_copyFrom_53 : decode cX0_copyFrom 53 = .ok (.iinc 2 1, 3) := by decide +kernel
theorem dX0_copyFrom_56 : decode cX0_copyFrom 56 = .ok (.goto (-30), 3) := by decide +kernel
theorem dX0_copyFrom_59 : decode cX0_copyFrom 59 = .ok (.iconst 0, 1) := by decide +kernel
theorem dX0_copyFrom_60 : decode cX0_copyFrom 60 = .ok (.istore_n 2, 1) := by decide +kernel
theorem dX0_copyFrom_61 : decode cX0_copyFrom 61 = .ok (.iload_n 2, 1) := by decide +kernel
theorem dX0_copyFrom_62 : decode cX0_copyFrom 62 = .ok (.aload_n 0, 1) := by decide +kernel
theorem dX0_copyFrom_63 : decode cX0_copyFrom 63 = .ok (.getfield 23, 3) := by decide +kernel
theorem dX0_copyFrom_66 : decode cX0_copyFrom 66 = .ok (.if_icmp .ge 28, 3) := by decide +kernel
theorem dX0_copyFrom_69 : decode cX0_copyFrom 69 = .ok (.aload_n 1, 1) := by decide +kernel
theorem dX0_copyFrom_70 : decode cX0_copyFrom 70 = .ok (.getfield 16, 3) := by decide +kernel
theorem dX0_copyFrom_73 : decode cX0_copyFrom 73 = .ok (.iload_n 2, 1) := by decide +kernel
theorem dX0_copyFrom_74 : decode cX0_copyFrom 74 = .ok (.aaload, 1) := by decide +kernel
theorem dX0_copyFrom_75 : decode cX0_copyFrom 75 = .ok (.iconst 0, 1) := by decide +kernel
theorem dX0_copyFrom_76 : decode cX0_copyFrom 76 = .ok (.aload_n 0, 1) := by decide +kernel
theorem dX0_copyFrom_77 : decode cX0_copyFrom 77 = .ok (.getfield 16, 3) := by decide +kernel
theorem dX0_copyFrom_80 : decode cX0_copyFrom 80 = .ok (.iload_n 2, 1) := by decide +kernel
theorem dX0_copyFrom_81 : decode cX0_copyFrom 81 = .ok (.aaload, 1) := by decide +kernel
theorem dX0_copyFrom_82 : decode cX0_copyFrom 82 = .ok (.iconst 0, 1) := by decide +kernel
theorem dX0_copyFrom_83 : decode cX0_copyFrom 83 = .ok (.bipush 10, 2) := by decide +kernel
theorem dX0_copyFrom_85 : decode cX0_copyFrom 85 = .ok (.invokestatic 29, 3) := by decide +kernel
theorem dX0_copyFrom_88 : decode cX0_copyFrom 88 = .ok (.iinc 2 1, 3) := by decide +kernel
theorem dX0_copyFrom_91 : decode cX0_copyFrom 91 = .ok (.goto (-30), 3) := by decide +kernel
theorem dX0_copyFrom_94 : decode cX0_copyFrom 94 = .ok (.return_, 1) := by decide +kernel
set_option maxRecDepth 20000 in
theorem ggX0_ofPipe_X0_whatCanFlow : GoodIn wsX0_ofPipe wsX0_whatCanFlow := goodIn_r _ [6, 1, 7, 8, 9, 10, 11, 12, 13, 14, 15, 16, 5, 17, 18, 19, 20, 21, 22] (by decide +kernel) (by decide +kernel)
set_option maxRecDepth 20000 in
theorem gX0_ofPipe_X0_whatCanFlow : GoodIn wsX0_ofPipe (wsV RX0 35 RX0 yX0_whatCanFlow wsX0_whatCanFlow) := goodIn_app (goodIn_of _ (by decide +kernel)) ggX0_ofPipe_X0_whatCanFlow
theorem dX0_ofPipe_0 : decode cX0_ofPipe 0 = .ok (.iload_n 2, 1) := by decide +kernel
theorem dX0_ofPipe_1 : decode cX0_ofPipe 1 = .ok (.bipush 8, 2) := by decide +kernel
theorem dX0_ofPipe_3 : decode cX0_ofPipe 3 = .ok (.if_icmp .ne 11, 3) := by decide +kernel
theorem dX0_ofPipe_6 : decode cX0_ofPipe 6 = .ok (.aload_n 0, 1) := by decide +kernel
theorem dX0_ofPipe_7 : decode cX0_ofPipe 7 = .ok (.iload_n 1, 1) := by decide +kernel
theorem dX0_ofPipe_8 : decode cX0_ofPipe 8 = .ok (.invokevirtual 35, 3) := by decide +kernel
theorem dX0_ofPipe_11 : decode cX0_ofPipe 11 = .ok (.goto 11, 3) := by decide +kernel
theorem dX0_ofPipe_14 : decode cX0_ofPipe 14 = .ok (.aload_n 0, 1) := by decide +kernel
theorem dX0_ofPipe_15 : decode cX0_ofPipe 15 = .ok (.getfield 16, 3) := by decide +kernel
theorem dX0_ofPipe_18 : decode cX0_ofPipe 18 = .ok (.iload_n 1, 1) := by decide +kernel
theorem dX0_ofPipe_19 : decode cX0_ofPipe 19 = .ok (.aaload, 1) := by decide +kernel
theorem dX0_ofPipe_20 : decode cX0_ofPipe 20 = .ok (.iload_n 2, 1) := by decide +kernel
theorem dX0_ofPipe_21 : decode cX0_ofPipe 21 = .ok (.iaload, 1) := by decide +kernel
theorem dX0_ofPipe_22 : decode cX0_ofPipe 22 = .ok (.ireturn, 1) := by decide +kernel
set_option maxRecDepth 20000 in
theorem ggX0_ofAll_X0_sumOfTanks : GoodIn wsX0_ofAll wsX0_sumOfTanks := goodIn_r _ [8, 2, 9, 23, 24, 25, 26, 27] (by decide +kernel) (by decide +kernel)
set_option maxRecDepth 20000 in
theorem gX0_ofAll_X0_sumOfTanks : GoodIn wsX0_ofAll (wsV RX0 39 RX0 yX0_sumOfTanks wsX0_sumOfTanks) := goodIn_app (goodIn_of _ (by decide +kernel)) ggX0_ofAll_X0_sumOfTanks
set_option maxRecDepth 20000 in
theorem ggX0_ofAll_X0_sumOfPipes : GoodIn wsX0_ofAll wsX0_sumOfPipes := goodIn_r _ [13, 3, 14, 23, 24, 25, 26, 27] (by decide +kernel) (by decide +kernel)
set_option maxRecDepth 20000 in
theorem gX0_ofAll_X0_sumOfPipes : GoodIn wsX0_ofAll (wsV RX0 42 RX0 yX0_sumOfPipes wsX0_sumOfPipes) := goodIn_app (goodIn_of _ (by decide +kernel)) ggX0_ofAll_X0_sumOfPipes
set_option maxRecDepth 20000 in
theorem ggX0_ofAll_X0_thirstyTanks : GoodIn wsX0_ofAll wsX0_thirstyTanks := goodIn_r _ [18, 2, 19, 20, 21, 7, 22, 9, 23, 24, 25, 26, 27] (by decide +kernel) (by decide +kernel)
set_option maxRecDepth 20000 in
theorem gX0_ofAll_X0_thirstyTanks : GoodIn wsX0_ofAll (wsV RX0 45 RX0 yX0_thirstyTanks wsX0_thirstyTanks) := goodIn_app (goodIn_of _ (by decide +kernel)) ggX0_ofAll_X0_thirstyTanks
theorem dX0_ofAll_0 : decode cX0_ofAll 0 = .ok (.iload_n 1, 1) := by decide +kernel
theorem dX0_ofAll_1 : decode cX0_ofAll 1 = .ok (.tableswitch 95 0 7 #[47, 52, 57, 62, 68, 74, 81, 88], 47) := by decide +kernel
theorem dX0_ofAll_48 : decode cX0_ofAll 48 = .ok (.aload_n 0, 1) := by decide +kernel
theorem dX0_ofAll_49 : decode cX0_ofAll 49 = .ok (.getfield 26, 3) := by decide +kernel
theorem dX0_ofAll_52 : decode cX0_ofAll 52 = .ok (.ireturn, 1) := by decide +kernel
theorem dX0_ofAll_53 : decode cX0_ofAll 53 = .ok (.aload_n 0, 1) := by decide +kernel
theorem dX0_ofAll_54 : decode cX0_ofAll 54 = .ok (.getfield 19, 3) := by decide +kernel
theorem dX0_ofAll_57 : decode cX0_ofAll 57 = .ok (.ireturn, 1) := by decide +kernel
theorem dX0_ofAll_58 : decode cX0_ofAll 58 = .ok (.aload_n 0, 1) := by decide +kernel
theorem dX0_ofAll_59 : decode cX0_ofAll 59 = .ok (.getfield 23, 3) := by decide +kernel
theorem dX0_ofAll_62 : decode cX0_ofAll 62 = .ok (.ireturn, 1) := by decide +kernel
theorem dX0_ofAll_63 : decode cX0_ofAll 63 = .ok (.aload_n 0, 1) := by decide +kernel
theorem dX0_ofAll_64 : decode cX0_ofAll 64 = .ok (.iconst 3, 1) := by decide +kernel
theorem dX0_ofAll_65 : decode cX0_ofAll 65 = .ok (.invokevirtual 39, 3) := by decide +kernel
theorem dX0_ofAll_68 : decode cX0_ofAll 68 = .ok (.ireturn, 1) := by decide +kernel
theorem dX0_ofAll_69 : decode cX0_ofAll 69 = .ok (.aload_n 0, 1) := by decide +kernel
theorem dX0_ofAll_70 : decode cX0_ofAll 70 = .ok (.iconst 4, 1) := by decide +kernel
theorem dX0_ofAll_71 : decode cX0_ofAll 71 = .ok (.invokevirtual 39, 3) := by decide +kernel
theorem dX0_ofAll_74 : decode cX0_ofAll 74 = .ok (.ireturn, 1) := by decide +kernel
theorem dX0_ofAll_75 : decode cX0_ofAll 75 = .ok (.aload_n 0, 1) := by decide +kernel
theorem dX0_ofAll_76 : decode cX0_ofAll 76 = .ok (.bipush 6, 2) := by decide +kernel
theorem dX0_ofAll_78 : decode cX0_ofAll 78 = .ok (.invokevirtual 39, 3) := by decide +kernel
theorem dX0_ofAll_81 : decode cX0_ofAll 81 = .ok (.ireturn, 1) := by decide +kernel
theorem dX0_ofAll_82 : decode cX0_ofAll 82 = .ok (.aload_n 0, 1) := by decide +kernel
theorem dX0_ofAll_83 : decode cX0_ofAll 83 = .ok (.bipush 7, 2) := by decide +kernel
theorem dX0_ofAll_85 : decode cX0_ofAll 85 = .ok (.invokevirtual 42, 3) := by decide +kernel
theorem dX0_ofAll_88 : decode cX0_ofAll 88 = .ok (.ireturn, 1) := by decide +kernel
theorem dX0_ofAll_89 : decode cX0_ofAll 89 = .ok (.aload_n 0, 1) := by decide +kernel
theorem dX0_ofAll_90 : decode cX0_ofAll 90 = .ok (.bipush 7, 2) := by decide +kernel
theorem dX0_ofAll_92 : decode cX0_ofAll 92 = .ok (.invokevirtual 39, 3) := by decide +kernel
theorem dX0_ofAll_95 : decode cX0_ofAll 95 = .ok (.ireturn, 1) := by decide +kernel
theorem dX0_ofAll_96 : decode cX0_ofAll 96 = .ok (.aload_n 0, 1) := by decide +kernel
theorem dX0_ofAll_97 : decode cX0_ofAll 97 = .ok (.invokevirtual 45, 3) := by decide +kernel
theorem dX0_ofAll_100 : decode cX0_ofAll 100 = .ok (.ireturn, 1) := by decide +kernel
theorem dX0_sumOfTanks_0 : decode cX0_sumOfTanks 0 = .ok (.iconst 0, 1) := by decide +kernel
theorem dX0_sumOfTanks_1 : decode cX0_sumOfTanks 1 = .ok (.istore_n 2, 1) := by decide +kernel
theorem dX0_sumOfTanks_2 : decode cX0_sumOfTanks 2 = .ok (.iconst 0, 1) := by decide +kernel
theorem dX0_sumOfTanks_3 : decode cX0_sumOfTanks 3 = .ok (.istore_n 3, 1) := by decide +kernel
theorem dX0_sumOfTanks_4 : decode cX0_sumOfTanks 4 = .ok (.iload_n 3, 1) := by decide +kernel
theorem dX0_sumOfTanks_5 : decode cX0_sumOfTanks 5 = .ok (.aload_n 0, 1) := by decide +kernel
theorem dX0_sumOfTanks_6 : decode cX0_sumOfTanks 6 = .ok (.getfield 19, 3) := by decide +kernel
theorem dX0_sumOfTanks_9 : decode cX0_sumOfTanks 9 = .ok (.if_icmp .ge 20, 3) := by decide +kernel
theorem dX0_sumOfTanks_12 : decode cX0_sumOfTanks 12 = .ok (.iload_n 2, 1) := by decide +kernel
theorem dX0_sumOfTanks_13 : decode cX0_sumOfTanks 13 = .ok (.aload_n 0, 1) := by decide +kernel
theorem dX0_sumOfTanks_14 : decode cX0_sumOfTanks 14 = .ok (.getfield 13, 3) := by decide +kernel
theorem dX0_sumOfTanks_17 : decode cX0_sumOfTanks 17 = .ok (.iload_n 3, 1) := by decide +kernel
theorem dX0_sumOfTanks_18 : decode cX0_sumOfTanks 18 = .ok (.aaload, 1) := by decide +kernel
theorem dX0_sumOfTanks_19 : decode cX0_sumOfTanks 19 = .ok (.iload_n 1, 1) := by decide +kernel
theorem dX0_sumOfTanks_20 : decode cX0_sumOfTanks 20 = .ok (.iaload, 1) := by decide +kernel
theorem dX0_sumOfTanks_21 : decode cX0_sumOfTanks 21 = .ok (.iadd, 1) := by decide +kernel
theorem dX0_sumOfTanks_22 : decode cX0_sumOfTanks 22 = .ok (.istore_n 2, 1) := by decide +kernel
theorem dX0_sumOfTanks_23 : decode cX0_sumOfTanks 23 = .ok (.iinc 3 1, 3) := by decide +kernel
theorem dX0_sumOfTanks_26 : decode cX0_sumOfTanks 26 = .ok (.goto (-22), 3) := by decide +kernel
theorem dX0_sumOfTanks_29 : decode cX0_sumOfTanks 29 = .ok (.iload_n 2, 1) := by decide +kernel
theorem dX0_sumOfTanks_30 : decode cX0_sumOfTanks 30 = .ok (.ireturn, 1) := by decide +kernel
theorem dX0_sumOfPipes_0 : decode cX0_sumOfPipes 0 = .ok (.iconst 0, 1) := by decide +kernel
theorem dX0_sumOfPipes_1 : decode cX0_sumOfPipes 1 = .ok (.istore_n 2, 1) := by decide +kernel
theorem dX0_sumOfPipes_2 : decode cX0_sumOfPipes 2 = .ok (.iconst 0, 1) := by decide +kernel
theorem dX0_sumOfPipes_3 : decode cX0_sumOfPipes 3 = .ok (.istore_n 3, 1) := by decide +kernel
theorem dX0_sumOfPipes_4 : decode cX0_sumOfPipes 4 = .ok (.iload_n 3, 1) := by decide +kernel
theorem dX0_sumOfPipes_5 : decode cX0_sumOfPipes 5 = .ok (.aload_n 0, 1) := by decide +kernel
theorem dX0_sumOfPipes_6 : decode cX0_sumOfPipes 6 = .ok (.getfield 23, 3) := by decide +kernel
theorem dX0_sumOfPipes_9 : decode cX0_sumOfPipes 9 = .ok (.if_icmp .ge 20, 3) := by decide +kernel
theorem dX0_sumOfPipes_12 : decode cX0_sumOfPipes 12 = .ok (.iload_n 2, 1) := by decide +kernel
theorem dX0_sumOfPipes_13 : decode cX0_sumOfPipes 13 = .ok (.aload_n 0, 1) := by decide +kernel
theorem dX0_sumOfPipes_14 : decode cX0_sumOfPipes 14 = .ok (.getfield 16, 3) := by decide +kernel
theorem dX0_sumOfPipes_17 : decode cX0_sumOfPipes 17 = .ok (.iload_n 3, 1) := by decide +kernel
theorem dX0_sumOfPipes_18 : decode cX0_sumOfPipes 18 = .ok (.aaload, 1) := by decide +kernel
theorem dX0_sumOfPipes_19 : decode cX0_sumOfPipes 19 = .ok (.iload_n 1, 1) := by decide +kernel
theorem dX0_sumOfPipes_20 : decode cX0_sumOfPipes 20 = .ok (.iaload, 1) := by decide +kernel
theorem dX0_sumOfPipes_21 : decode cX0_sumOfPipes 21 = .ok (.iadd, 1) := by decide +kernel
theorem dX0_sumOfPipes_22 : decode cX0_sumOfPipes 22 = .ok (.istore_n 2, 1) := by decide +kernel
theorem dX0_sumOfPipes_23 : decode cX0_sumOfPipes 23 = .ok (.iinc 3 1, 3) := by decide +kernel
theorem dX0_sumOfPipes_26 : decode cX0_sumOfPipes 26 = .ok (.goto (-22), 3) := by decide +kernel
theorem dX0_sumOfPipes_29 : decode cX0_sumOfPipes 29 = .ok (.iload_n 2, 1) := by decide +kernel
theorem dX0_sumOfPipes_30 : decode cX0_sumOfPipes 30 = .ok (.ireturn, 1) := by decide +kernel
theorem dX0_isThirsty_0 : decode cX0_isThirsty 0 = .ok (.aload_n 0, 1) := by decide +kernel
theorem dX0_isThirsty_1 : decode cX0_isThirsty 1 = .ok (.getfield 13, 3) := by decide +kernel
theorem dX0_isThirsty_4 : decode cX0_isThirsty 4 = .ok (.iload_n 1, 1) := by decide +kernel
theorem dX0_isThirsty_5 : decode cX0_isThirsty 5 = .ok (.aaload, 1) := by decide +kernel
theorem dX0_isThirsty_6 : decode cX0_isThirsty 6 = .ok (.iconst 5, 1) := by decide +kernel
theorem dX0_isThirsty_7 : decode cX0_isThirsty 7 = .ok (.iaload, 1) := by decide +kernel
theorem dX0_isThirsty_8 : decode cX0_isThirsty 8 = .ok (.aload_n 0, 1) := by decide +kernel
theorem dX0_isThirsty_9 : decode cX0_isThirsty 9 = .ok (.getfield 13, 3) := by decide +kernel
theorem dX0_isThirsty_12 : decode cX0_isThirsty 12 = .ok (.iload_n 1, 1) := by decide +kernel
theorem dX0_isThirsty_13 : decode cX0_isThirsty 13 = .ok (.aaload, 1) := by decide +kernel
theorem dX0_isThirsty_14 : decode cX0_isThirsty 14 = .ok (.iconst 2, 1) := by decide +kernel
theorem dX0_isThirsty_15 : decode cX0_isThirsty 15 = .ok (.iaload, 1) := by decide +kernel
theorem dX0_isThirsty_16 : decode cX0_isThirsty 16 = .ok (.if_icmp .ge 7, 3) := by decide +kernel
theorem dX0_isThirsty_19 : decode cX0_isThirsty 19 = .ok (.iconst 1, 1) := by decide +kernel
theorem dX0_isThirsty_20 : decode cX0_isThirsty 20 = .ok (.goto 4, 3) := by decide +kernel
theorem dX0_isThirsty_23 : decode cX0_isThirsty 23 = .ok (.iconst 0, 1) := by decide +kernel
theorem dX0_isThirsty_24 : decode cX0_isThirsty 24 = .ok (.ireturn, 1) := by decide +kernel
set_option maxRecDepth 20000 in
theorem ggX0_thirstyTanks_X0_isThirsty : GoodIn wsX0_thirstyTanks wsX0_isThirsty := goodIn_r _ [6, 7, 8, 9, 10, 11, 12] (by decide +kernel) (by decide +kernel)
set_option maxRecDepth 20000 in
theorem gX0_thirstyTanks_X0_isThirsty : GoodIn wsX0_thirstyTanks (wsV RX0 49 RX0 yX0_isThirsty wsX0_isThirsty) := goodIn_app (goodIn_of _ (by decide +kernel)) ggX0_thirstyTanks_X0_isThirsty
theorem dX0_thirstyTanks_0 : decode cX0_thirstyTanks 0 = .ok (.iconst 0, 1) := by decide +kernel
theorem dX0_thirstyTanks_1 : decode cX0_thirstyTanks 1 = .ok (.istore_n 1, 1) := by decide +kernel
theorem dX0_thirstyTanks_2 : decode cX0_thirstyTanks 2 = .ok (.iconst 0, 1) := by decide +kernel
theorem dX0_thirstyTanks_3 : decode cX0_thirstyTanks 3 = .ok (.istore_n 2, 1) := by decide +kernel
theorem dX0_thirstyTanks_4 : decode cX0_thirstyTanks 4 = .ok (.iload_n 2, 1) := by decide +kernel
theorem dX0_thirstyTanks_5 : decode cX0_thirstyTanks 5 = .ok (.aload_n 0, 1) := by decide +kernel
theorem dX0_thirstyTanks_6 : decode cX0_thirstyTanks 6 = .ok (.getfield 19, 3) := by decide +kernel
theorem dX0_thirstyTanks_9 : decode cX0_thirstyTanks 9 = .ok (.if_icmp .ge 20, 3) := by decide +kernel
theorem dX0_thirstyTanks_12 : decode cX0_thirstyTanks 12 = .ok (.aload_n 0, 1) := by decide +kernel
theorem dX0_thirstyTanks_13 : decode cX0_thirstyTanks 13 = .ok (.iload_n 2, 1) := by decide +kernel
theorem dX0_thirstyTanks_14 : decode cX0_thirstyTanks 14 = .ok (.invokevirtual 49, 3) := by decide +kernel
theorem dX0_thirstyTanks_17 : decode cX0_thirstyTanks 17 = .ok (.ifCond .eq 6, 3) := by decide +kernel
theorem dX0_thirstyTanks_20 : decode cX0_thirstyTanks 20 = .ok (.iinc 1 1, 3) := by decide +kernel
theorem dX0_thirstyTanks_23 : decode cX0_thirstyTanks 23 = .ok (.iinc 2 1, 3) := by decide +kernel
theorem dX0_thirstyTanks_26 : decode cX0_thirstyTanks 26 = .ok (.goto (-22), 3) := by decide +kernel
theorem dX0_thirstyTanks_29 : decode cX0_thirstyTanks 29 = .ok (.iload_n 1, 1) := by decide +kernel
theorem dX0_thirstyTanks_30 : decode cX0_thirstyTanks 30 = .ok (.ireturn, 1) := by decide +kernel
theorem dX0_reachedFrom_0 : decode cX0_reachedFrom 0 = .ok (.iconst 0, 1) := by decide +kernel
theorem dX0_reachedFrom_1 : decode cX0_reachedFrom 1 = .ok (.istore_n 2, 1) := by decide +kernel
theorem dX0_reachedFrom_2 : decode cX0_reachedFrom 2 = .ok (.iconst 0, 1) := by decide +kernel
theorem dX0_reachedFrom_3 : decode cX0_reachedFrom 3 = .ok (.istore_n 3, 1) := by decide +kernel
theorem dX0_reachedFrom_4 : decode cX0_reachedFrom 4 = .ok (.iload_n 3, 1) := by decide +kernel
theorem dX0_reachedFrom_5 : decode cX0_reachedFrom 5 = .ok (.aload_n 0, 1) := by decide +kernel
theorem dX0_reachedFrom_6 : decode cX0_reachedFrom 6 = .ok (.getfield 19, 3) := by decide +kernel
theorem dX0_reachedFrom_9 : decode cX0_reachedFrom 9 = .ok (.if_icmp .ge 67, 3) := by decide +kernel
theorem dX0_reachedFrom_12 : decode cX0_reachedFrom 12 = .ok (.iconst 0, 1) := by decide +kernel
theorem dX0_reachedFrom_13 : decode cX0_reachedFrom 13 = .ok (.istore 4, 2) := by decide +kernel
theorem dX0_reachedFrom_15 : decode cX0_reachedFrom 15 = .ok (.iload 4, 2) := by decide +kernel
theorem dX0_reachedFrom_17 : decode cX0_reachedFrom 17 = .ok (.aload_n 0, 1) := by decide +kernel
theorem dX0_reachedFrom_18 : decode cX0_reachedFrom 18 = .ok (.getfield 23, 3) := by decide +kernel
theorem dX0_reachedFrom_21 : decode cX0_reachedFrom 21 = .ok (.if_icmp .ge 49, 3) := by decide +kernel
theorem dX0_reachedFrom_24 : decode cX0_reachedFrom 24 = .ok (.aload_n 0, 1) := by decide +kernel
theorem dX0_reachedFrom_25 : decode cX0_reachedFrom 25 = .ok (.getfield 16, 3) := by decide +kernel
theorem dX0_reachedFrom_28 : decode cX0_reachedFrom 28 = .ok (.iload 4, 2) := by decide +kernel
theorem dX0_reachedFrom_30 : decode cX0_reachedFrom 30 = .ok (.aaload, 1) := by decide +kernel
theorem dX0_reachedFrom_31 : decode cX0_reachedFrom 31 = .ok (.iconst 0, 1) := by decide +kernel
theorem dX0_reachedFrom_32 : decode cX0_reachedFrom 32 = .ok (.iaload, 1) := by decide +kernel
theorem dX0_reachedFrom_33 : decode cX0_reachedFrom 33 = .ok (.istore 5, 2) := by decide +kernel
theorem dX0_reachedFrom_35 : decode cX0_reachedFrom 35 = .ok (.iload 5, 2) := by decide +kernel
theorem dX0_reachedFrom_37 : decode cX0_reachedFrom 37 = .ok (.iload_n 1, 1) := by decide +kernel
theorem dX0_reachedFrom_38 : decode cX0_reachedFrom 38 = .ok (.if_icmp .eq 12, 3) := by decide +kernel
theorem dX0_reachedFrom_41 : decode cX0_reachedFrom 41 = .ok (.iload_n 2, 1) := by decide +kernel
theorem dX0_reachedFrom_42 : decode cX0_reachedFrom 42 = .ok (.iconst 1, 1) := by decide +kernel
theorem dX0_reachedFrom_43 : decode cX0_reachedFrom 43 = .ok (.iload 5, 2) := by decide +kernel
theorem dX0_reachedFrom_45 : decode cX0_reachedFrom 45 = .ok (.ishl, 1) := by decide +kernel
theorem dX0_reachedFrom_46 : decode cX0_reachedFrom 46 = .ok (.iand, 1) := by decide +kernel
theorem dX0_reachedFrom_47 : decode cX0_reachedFrom 47 = .ok (.ifCond .eq 17, 3) := by decide +kernel
theorem dX0_reachedFrom_50 : decode cX0_reachedFrom 50 = .ok (.iload_n 2, 1) := by decide +kernel
theorem dX0_reachedFrom_51 : decode cX0_reachedFrom 51 = .ok (.iconst 1, 1) := by decide +kernel
theorem dX0_reachedFrom_52 : decode cX0_reachedFrom 52 = .ok (.aload_n 0, 1) := by decide +kernel
theorem dX0_reachedFrom_53 : decode cX0_reachedFrom 53 = .ok (.getfield 16, 3) := by decide +kernel
theorem dX0_reachedFrom_56 : decode cX0_reachedFrom 56 = .ok (.iload 4, 2) := by decide +kernel
theorem dX0_reachedFrom_58 : decode cX0_reachedFrom 58 = .ok (.aaload, 1) := by decide +kernel
theorem dX0_reachedFrom_59 : decode cX0_reachedFrom 59 = .ok (.iconst 1, 1) := by decide +kernel
theorem dX0_reachedFrom_60 : decode cX0_reachedFrom 60 = .ok (.iaload, 1) := by decide +kernel
theorem dX0_reachedFrom_61 : decode cX0_reachedFrom 61 = .ok (.ishl, 1) := by decide +kernel
theorem dX0_reachedFrom_62 : decode cX0_reachedFrom 62 = .ok (.ior, 1) := by decide +kernel
theorem dX0_reachedFrom_63 : decode cX0_reachedFrom 63 = .ok (.istore_n 2, 1) := by decide +kernel
theorem dX0_reachedFrom_64 : decode cX0_reachedFrom 64 = .ok (.iinc 4 1, 3) := by decide +kernel
theorem dX0_reachedFrom_67 : decode cX0_reachedFrom 67 = .ok (.goto (-52), 3) := by decide +kernel
theorem dX0_reachedFrom_70 : decode cX0_reachedFrom 70 = .ok (.iinc 3 1, 3) := by decide +kernel
theorem dX0_reachedFrom_73 : decode cX0_reachedFrom 73 = .ok (.goto (-69), 3) := by decide +kernel
theorem dX0_reachedFrom_76 : decode cX0_reachedFrom 76 = .ok (.iload_n 2, 1) := by decide +kernel
theorem dX0_reachedFrom_77 : decode cX0_reachedFrom 77 = .ok (.ireturn, 1) := by decide +kernel
set_option maxRecDepth 20000 in
theorem ggX0_whatCanFlow_X0_head : GoodIn wsX0_whatCanFlow wsX0_head := goodIn_r _ [13] (by decide +kernel) (by decide +kernel)
set_option maxRecDepth 20000 in
theorem gX0_whatCanFlow_X0_head : GoodIn wsX0_whatCanFlow (va_wsS RX0 53 yX0_head wsX0_head) := goodIn_app (goodIn_of _ (by decide +kernel)) ggX0_whatCanFlow_X0_head
theorem dX0_whatCanFlow_0 : decode cX0_whatCanFlow 0 = .ok (.aload_n 0, 1) := by decide +kernel
theorem dX0_whatCanFlow_1 : decode cX0_whatCanFlow 1 = .ok (.getfield 16, 3) := by decide +kernel
theorem dX0_whatCanFlow_4 : decode cX0_whatCanFlow 4 = .ok (.iload_n 1, 1) := by decide +kernel
theorem dX0_whatCanFlow_5 : decode cX0_whatCanFlow 5 = .ok (.aaload, 1) := by decide +kernel
theorem dX0_whatCanFlow_6 : decode cX0_whatCanFlow 6 = .ok (.astore_n 2, 1) := by decide +kernel
theorem dX0_whatCanFlow_7 : decode cX0_whatCanFlow 7 = .ok (.aload_n 0, 1) := by decide +kernel
theorem dX0_whatCanFlow_8 : decode cX0_whatCanFlow 8 = .ok (.getfield 13, 3) := by decide +kernel
theorem dX0_whatCanFlow_11 : decode cX0_whatCanFlow 11 = .ok (.aload_n 2, 1) := by decide +kernel
theorem dX0_whatCanFlow_12 : decode cX0_whatCanFlow 12 = .ok (.iconst 0, 1) := by decide +kernel
theorem dX0_whatCanFlow_13 : decode cX0_whatCanFlow 13 = .ok (.iaload, 1) := by decide +kernel
theorem dX0_whatCanFlow_14 : decode cX0_whatCanFlow 14 = .ok (.aaload, 1) := by decide +kernel
theorem dX0_whatCanFlow_15 : decode cX0_whatCanFlow 15 = .ok (.astore_n 3, 1) := by decide +kernel
theorem dX0_whatCanFlow_16 : decode cX0_whatCanFlow 16 = .ok (.aload_n 3, 1) := by decide +kernel
theorem dX0_whatCanFlow_17 : decode cX0_whatCanFlow 17 = .ok (.invokestatic 53, 3) := by decide +kernel
theorem dX0_whatCanFlow_20 : decode cX0_whatCanFlow 20 = .ok (.aload_n 0, 1) := by decide +kernel
theorem dX0_whatCanFlow_21 : decode cX0_whatCanFlow 21 = .ok (.getfield 13, 3) := by decide +kernel
theorem dX0_whatCanFlow_24 : decode cX0_whatCanFlow 24 = .ok (.aload_n 2, 1) := by decide +kernel
theorem dX0_whatCanFlow_25 : decode cX0_whatCanFlow 25 = .ok (.iconst 1, 1) := by decide +kernel
theorem dX0_whatCanFlow_26 : decode cX0_whatCanFlow 26 = .ok (.iaload, 1) := by decide +kernel
theorem dX0_whatCanFlow_27 : decode cX0_whatCanFlow 27 = .ok (.aaload, 1) := by decide +kernel
theorem dX0_whatCanFlow_28 : decode cX0_whatCanFlow 28 = .ok (.invokestatic 53, 3) := by decide +kernel
theorem dX0_whatCanFlow_31 : decode cX0_whatCanFlow 31 = .ok (.isub, 1) := by decide +kernel
theorem dX0_whatCanFlow_32 : decode cX0_whatCanFlow 32 = .ok (.istore 4, 2) := by decide +kernel
theorem dX0_whatCanFlow_34 : decode cX0_whatCanFlow 34 = .ok (.iload 4, 2) := by decide +kernel
theorem dX0_whatCanFlow_36 : decode cX0_whatCanFlow 36 = .ok (.ifCond .le 11, 3) := by decide +kernel
theorem dX0_whatCanFlow_39 : decode cX0_whatCanFlow 39 = .ok (.iload 4, 2) := by decide +kernel
theorem dX0_whatCanFlow_41 : decode cX0_whatCanFlow 41 = .ok (.aload_n 2, 1) := by decide +kernel
theorem dX0_whatCanFlow_42 : decode cX0_whatCanFlow 42 = .ok (.iconst 3, 1) := by decide +kernel
theorem dX0_whatCanFlow_43 : decode cX0_whatCanFlow 43 = .ok (.iaload, 1) := by decide +kernel
theorem dX0_whatCanFlow_44 : decode cX0_whatCanFlow 44 = .ok (.if_icmp .ge 5, 3) := by decide +kernel
theorem dX0_whatCanFlow_47 : decode cX0_whatCanFlow 47 = .ok (.iconst 0, 1) := by decide +kernel
theorem dX0_whatCanFlow_48 : decode cX0_whatCanFlow 48 = .ok (.ireturn, 1) := by decide +kernel
theorem dX0_whatCanFlow_49 : decode cX0_whatCanFlow 49 = .ok (.iconst 0, 1) := by decide +kernel
theorem dX0_whatCanFlow_50 : decode cX0_whatCanFlow 50 = .ok (.aload_n 2, 1) := by decide +kernel
theorem dX0_whatCanFlow_51 : decode cX0_whatCanFlow 51 = .ok (.iconst 2, 1) := by decide +kernel
theorem dX0_whatCanFlow_52 : decode cX0_whatCanFlow 52 = .ok (.iaload, 1) := by decide +kernel
theorem dX0_whatCanFlow_53 : decode cX0_whatCanFlow 53 = .ok (.aload_n 2, 1) := by decide +kernel
theorem dX0_whatCanFlow_54 : decode cX0_whatCanFlow 54 = .ok (.iconst 4, 1) := by decide +kernel
theorem dX0_whatCanFlow_55 : decode cX0_whatCanFlow 55 = .ok (.iaload, 1) := by decide +kernel
theorem dX0_whatCanFlow_56 : decode cX0_whatCanFlow 56 = .ok (.isub, 1) := by decide +kernel
theorem dX0_whatCanFlow_57 : decode cX0_whatCanFlow 57 = .ok (.invokestatic 57, 3) := by decide +kernel
theorem dX0_whatCanFlow_60 : decode cX0_whatCanFlow 60 = .ok (.istore 5, 2) := by decide +kernel
theorem dX0_whatCanFlow_62 : decode cX0_whatCanFlow 62 = .ok (.iload 4, 2) := by decide +kernel
theorem dX0_whatCanFlow_64 : decode cX0_whatCanFlow 64 = .ok (.bipush 10, 2) := by decide +kernel
theorem dX0_whatCanFlow_66 : decode cX0_whatCanFlow 66 = .ok (.idiv, 1) := by decide +kernel
theorem dX0_whatCanFlow_67 : decode cX0_whatCanFlow 67 = .ok (.iconst 1, 1) := by decide +kernel
theorem dX0_whatCanFlow_68 : decode cX0_whatCanFlow 68 = .ok (.iadd, 1) := by decide +kernel
theorem dX0_whatCanFlow_69 : decode cX0_whatCanFlow 69 = .ok (.istore 6, 2) := by decide +kernel
theorem dX0_whatCanFlow_71 : decode cX0_whatCanFlow 71 = .ok (.iload 5, 2) := by decide +kernel
theorem dX0_whatCanFlow_73 : decode cX0_whatCanFlow 73 = .ok (.iload 6, 2) := by decide +kernel
theorem dX0_whatCanFlow_75 : decode cX0_whatCanFlow 75 = .ok (.invokestatic 63, 3) := by decide +kernel
theorem dX0_whatCanFlow_78 : decode cX0_whatCanFlow 78 = .ok (.aload_n 3, 1) := by decide +kernel
theorem dX0_whatCanFlow_79 : decode cX0_whatCanFlow 79 = .ok (.iconst 3, 1) := by decide +kernel
theorem dX0_whatCanFlow_80 : decode cX0_whatCanFlow 80 = .ok (.iaload, 1) := by decide +kernel
theorem dX0_whatCanFlow_81 : decode cX0_whatCanFlow 81 = .ok (.invokestatic 63, 3) := by decide +kernel
theorem dX0_whatCanFlow_84 : decode cX0_whatCanFlow 84 = .ok (.ireturn, 1) := by decide +kernel
theorem dX0_head_0 : decode cX0_head 0 = .ok (.bipush 10, 2) := by decide +kernel
theorem dX0_head_2 : decode cX0_head 2 = .ok (.aload_n 0, 1) := by decide +kernel
theorem dX0_head_3 : decode cX0_head 3 = .ok (.iconst 0, 1) := by decide +kernel
theorem dX0_head_4 : decode cX0_head 4 = .ok (.iaload, 1) := by decide +kernel
theorem dX0_head_5 : decode cX0_head 5 = .ok (.imul, 1) := by decide +kernel
theorem dX0_head_6 : decode cX0_head 6 = .ok (.aload_n 0, 1) := by decide +kernel
theorem dX0_head_7 : decode cX0_head 7 = .ok (.iconst 3, 1) := by decide +kernel
theorem dX0_head_8 : decode cX0_head 8 = .ok (.iaload, 1) := by decide +kernel
theorem dX0_head_9 : decode cX0_head 9 = .ok (.iadd, 1) := by decide +kernel
theorem dX0_head_10 : decode cX0_head 10 = .ok (.ireturn, 1) := by decide +kernel
set_option maxRecDepth 20000 in
theorem ggX0_drunkIn_X0_sumOfTanks : GoodIn wsX0_drunkIn wsX0_sumOfTanks := goodIn_r _ [5, 6, 7, 52, 53, 54, 55, 56] (by decide +kernel) (by decide +kernel)
set_option maxRecDepth 20000 in
theorem gX0_drunkIn_X0_sumOfTanks : GoodIn wsX0_drunkIn (wsV RX0 39 RX0 yX0_sumOfTanks wsX0_sumOfTanks) := goodIn_app (goodIn_of _ (by decide +kernel)) ggX0_drunkIn_X0_sumOfTanks
set_option maxRecDepth 20000 in
theorem ggX0_drunkIn_X0_goThroughDay : GoodIn wsX0_drunkIn wsX0_goThroughDay := goodIn_r _ [11, 6, 7, 12, 13, 14, 15, 4, 16, 17, 18, 19, 20, 21, 22, 23, 24, 25, 26, 27, 28, 29, 30, 31, 32, 33, 34, 35, 36, 37, 38, 39, 40, 41, 42, 43, 44, 45, 46, 47, 48, 49, 50, 51, 52, 53, 54, 55, 56] (by decide +kernel) (by decide +kernel)
set_option maxRecDepth 20000 in
theorem gX0_drunkIn_X0_goThroughDay : GoodIn wsX0_drunkIn (wsV RX0 66 RX0 yX0_goThroughDay wsX0_goThroughDay) := goodIn_app (goodIn_of _ (by decide +kernel)) ggX0_drunkIn_X0_goThroughDay
theorem dX0_drunkIn_0 : decode cX0_drunkIn 0 = .ok (.aload_n 0, 1) := by decide +kernel
theorem dX0_drunkIn_1 : decode cX0_drunkIn 1 = .ok (.bipush 6, 2) := by decide +kernel
theorem dX0_drunkIn_3 : decode cX0_drunkIn 3 = .ok (.invokevirtual 39, 3) := by decide +kernel
theorem dX0_drunkIn_6 : decode cX0_drunkIn 6 = .ok (.istore_n 2, 1) := by decide +kernel
theorem dX0_drunkIn_7 : decode cX0_drunkIn 7 = .ok (.iconst 0, 1) := by decide +kernel
theorem dX0_drunkIn_8 : decode cX0_drunkIn 8 = .ok (.istore_n 3, 1) := by decide +kernel
theorem dX0_drunkIn_9 : decode cX0_drunkIn 9 = .ok (.iload_n 3, 1) := by decide +kernel
theorem dX0_drunkIn_10 : decode cX0_drunkIn 10 = .ok (.iload_n 1, 1) := by decide +kernel
theorem dX0_drunkIn_11 : decode cX0_drunkIn 11 = .ok (.if_icmp .ge 13, 3) := by decide +kernel
theorem dX0_drunkIn_14 : decode cX0_drunkIn 14 = .ok (.aload_n 0, 1) := by decide +kernel
theorem dX0_drunkIn_15 : decode cX0_drunkIn 15 = .ok (.invokevirtual 66, 3) := by decide +kernel
theorem dX0_drunkIn_18 : decode cX0_drunkIn 18 = .ok (.iinc 3 1, 3) := by decide +kernel
theorem dX0_drunkIn_21 : decode cX0_drunkIn 21 = .ok (.goto (-12), 3) := by decide +kernel
theorem dX0_drunkIn_24 : decode cX0_drunkIn 24 = .ok (.aload_n 0, 1) := by decide +kernel
theorem dX0_drunkIn_25 : decode cX0_drunkIn 25 = .ok (.bipush 6, 2) := by decide +kernel
theorem dX0_drunkIn_27 : decode cX0_drunkIn 27 = .ok (.invokevirtual 39, 3) := by decide +kernel
theorem dX0_drunkIn_30 : decode cX0_drunkIn 30 = .ok (.iload_n 2, 1) := by decide +kernel
theorem dX0_drunkIn_31 : decode cX0_drunkIn 31 = .ok (.isub, 1) := by decide +kernel
theorem dX0_drunkIn_32 : decode cX0_drunkIn 32 = .ok (.ireturn, 1) := by decide +kernel
set_option maxRecDepth 20000 in
theorem ggX0_goThroughDay_X0_feed : GoodIn wsX0_goThroughDay wsX0_feed := goodIn_r _ [8, 9, 10, 7, 11, 12, 13, 14, 15, 16, 17, 18, 19, 20, 21] (by decide +kernel) (by decide +kernel)
set_option maxRecDepth 20000 in
theorem gX0_goThroughDay_X0_feed : GoodIn wsX0_goThroughDay (va_wsS RX0 69 yX0_feed wsX0_feed) := goodIn_app (goodIn_of _ (by decide +kernel)) ggX0_goThroughDay_X0_feed
set_option maxRecDepth 20000 in
theorem ggX0_goThroughDay_X0_flowThrough : GoodIn wsX0_goThroughDay wsX0_flowThrough := goodIn_r _ [25, 26, 2, 19, 20, 14, 21, 27, 28, 29, 7, 30, 12, 13, 15, 31, 32, 33, 34, 35, 36, 16, 17, 18, 9, 10, 11, 44, 45, 46, 47, 48] (by decide +kernel) (by decide +kernel)
set_option maxRecDepth 20000 in
theorem gX0_goThroughDay_X0_flowThrough : GoodIn wsX0_goThroughDay (wsV RX0 73 RX0 yX0_flowThrough wsX0_flowThrough) := goodIn_app (goodIn_of _ (by decide +kernel)) ggX0_goThroughDay_X0_flowThrough
set_option maxRecDepth 20000 in
theorem ggX0_goThroughDay_X0_growCrusts : GoodIn wsX0_goThroughDay wsX0_growCrusts := goodIn_r _ [40, 3, 26, 19, 20, 14, 21, 44, 45, 46, 47, 48] (by decide +kernel) (by decide +kernel)
set_option maxRecDepth 20000 in
theorem gX0_goThroughDay_X0_growCrusts : GoodIn wsX0_goThroughDay (wsV RX0 77 RX0 yX0_growCrusts wsX0_growCrusts) := goodIn_app (goodIn_of _ (by decide +kernel)) ggX0_goThroughDay_X0_growCrusts
set_option maxRecDepth 20000 in
theorem ggX0_goThroughDay_X0_drinkFrom : GoodIn wsX0_goThroughDay wsX0_drinkFrom := goodIn_r _ [43, 19, 20, 14, 21] (by decide +kernel) (by decide +kernel)
set_option maxRecDepth 20000 in
theorem gX0_goThroughDay_X0_drinkFrom : GoodIn wsX0_goThroughDay (va_wsS RX0 80 yX0_drinkFrom wsX0_drinkFrom) := goodIn_app (goodIn_of _ (by decide +kernel)) ggX0_goThroughDay_X0_drinkFrom
theorem dX0_goThroughDay_0 : decode cX0_goThroughDay 0 = .ok (.iconst 0, 1) := by decide +kernel
theorem dX0_goThroughDay_1 : decode cX0_goThroughDay 1 = .ok (.istore_n 1, 1) := by decide +kernel
theorem dX0_goThroughDay_2 : decode cX0_goThroughDay 2 = .ok (.iload_n 1, 1) := by decide +kernel
theorem dX0_goThroughDay_3 : decode cX0_goThroughDay 3 = .ok (.aload_n 0, 1) := by decide +kernel
theorem dX0_goThroughDay_4 : decode cX0_goThroughDay 4 = .ok (.getfield 19, 3) := by decide +kernel
theorem dX0_goThroughDay_7 : decode cX0_goThroughDay 7 = .ok (.if_icmp .ge 18, 3) := by decide +kernel
theorem dX0_goThroughDay_10 : decode cX0_goThroughDay 10 = .ok (.aload_n 0, 1) := by decide +kernel
theorem dX0_goThroughDay_11 : decode cX0_goThroughDay 11 = .ok (.getfield 13, 3) := by decide +kernel
theorem dX0_goThroughDay_14 : decode cX0_goThroughDay 14 = .ok (.iload_n 1, 1) := by decide +kernel
theorem dX0_goThroughDay_15 : decode cX0_goThroughDay 15 = .ok (.aaload, 1) := by decide +kernel
theorem dX0_goThroughDay_16 : decode cX0_goThroughDay 16 = .ok (.invokestatic 69, 3) := by decide +kernel
theorem dX0_goThroughDay_19 : decode cX0_goThroughDay 19 = .ok (.iinc 1 1, 3) := by decide +kernel
theorem dX0_goThroughDay_22 : decode cX0_goThroughDay 22 = .ok (.goto (-20), 3) := by decide +kernel
theorem dX0_goThroughDay_25 : decode cX0_goThroughDay 25 = .ok (.iconst 0, 1) := by decide +kernel
theorem dX0_goThroughDay_26 : decode cX0_goThroughDay 26 = .ok (.istore_n 1, 1) := by decide +kernel
theorem dX0_goThroughDay_27 : decode cX0_goThroughDay 27 = .ok (.iload_n 1, 1) := by decide +kernel
theorem dX0_goThroughDay_28 : decode cX0_goThroughDay 28 = .ok (.aload_n 0, 1) := by decide +kernel
theorem dX0_goThroughDay_29 : decode cX0_goThroughDay 29 = .ok (.getfield 23, 3) := by decide +kernel
theorem dX0_goThroughDay_32 : decode cX0_goThroughDay 32 = .ok (.if_icmp .ge 14, 3) := by decide +kernel
theorem dX0_goThroughDay_35 : decode cX0_goThroughDay 35 = .ok (.aload_n 0, 1) := by decide +kernel
theorem dX0_goThroughDay_36 : decode cX0_goThroughDay 36 = .ok (.iload_n 1, 1) := by decide +kernel
theorem dX0_goThroughDay_37 : decode cX0_goThroughDay 37 = .ok (.invokevirtual 73, 3) := by decide +kernel
theorem dX0_goThroughDay_40 : decode cX0_goThroughDay 40 = .ok (.iinc 1 1, 3) := by decide +kernel
theorem dX0_goThroughDay_43 : decode cX0_goThroughDay 43 = .ok (.goto (-16), 3) := by decide +kernel
theorem dX0_goThroughDay_46 : decode cX0_goThroughDay 46 = .ok (.aload_n 0, 1) := by decide +kernel
theorem dX0_goThroughDay_47 : decode cX0_goThroughDay 47 = .ok (.getfield 26, 3) := by decide +kernel
theorem dX0_goThroughDay_50 : decode cX0_goThroughDay 50 = .ok (.iconst 4, 1) := by decide +kernel
theorem dX0_goThroughDay_51 : decode cX0_goThroughDay 51 = .ok (.irem, 1) := by decide +kernel
theorem dX0_goThroughDay_52 : decode cX0_goThroughDay 52 = .ok (.ifCond .ne 7, 3) := by decide +kernel
theorem dX0_goThroughDay_55 : decode cX0_goThroughDay 55 = .ok (.aload_n 0, 1) := by decide +kernel
theorem dX0_goThroughDay_56 : decode cX0_goThroughDay 56 = .ok (.invokevirtual 77, 3) := by decide +kernel
theorem dX0_goThroughDay_59 : decode cX0_goThroughDay 59 = .ok (.iconst 0, 1) := by decide +kernel
theorem dX0_goThroughDay_60 : decode cX0_goThroughDay 60 = .ok (.istore_n 1, 1) := by decide +kernel
theorem dX0_goThroughDay_61 : decode cX0_goThroughDay 61 = .ok (.iload_n 1, 1) := by decide +kernel
theorem dX0_goThroughDay_62 : decode cX0_goThroughDay 62 = .ok (.aload_n 0, 1) := by decide +kernel
theorem dX0_goThroughDay_63 : decode cX0_goThroughDay 63 = .ok (.getfield 19, 3) := by decide +kernel
theorem dX0_goThroughDay_66 : decode cX0_goThroughDay 66 = .ok (.if_icmp .ge 18, 3) := by decide +kernel
theorem dX0_goThroughDay_69 : decode cX0_goThroughDay 69 = .ok (.aload_n 0, 1) := by decide +kernel
theorem dX0_goThroughDay_70 : decode cX0_goThroughDay 70 = .ok (.getfield 13, 3) := by decide +kernel
theorem dX0_goThroughDay_73 : decode cX0_goThroughDay 73 = .ok (.iload_n 1, 1) := by decide +kernel
theorem dX0_goThroughDay_74 : decode cX0_goThroughDay 74 = .ok (.aaload, 1) := by decide +kernel
theorem dX0_goThroughDay_75 : decode cX0_goThroughDay 75 = .ok (.invokestatic 80, 3) := by decide +kernel
theorem dX0_goThroughDay_78 : decode cX0_goThroughDay 78 = .ok (.iinc 1 1, 3) := by decide +kernel
theorem dX0_goThroughDay_81 : decode cX0_goThroughDay 81 = .ok (.goto (-20), 3) := by decide +kernel
theorem dX0_goThroughDay_84 : decode cX0_goThroughDay 84 = .ok (.aload_n 0, 1) := by decide +kernel
theorem dX0_goThroughDay_85 : decode cX0_goThroughDay 85 = .ok (.dup, 1) := by decide +kernel
theorem dX0_goThroughDay_86 : decode cX0_goThroughDay 86 = .ok (.getfield 26, 3) := by decide +kernel
theorem dX0_goThroughDay_89 : decode cX0_goThroughDay 89 = .ok (.iconst 1, 1) := by decide +kernel
theorem dX0_goThroughDay_90 : decode cX0_goThroughDay 90 = .ok (.iadd, 1) := by decide +kernel
theorem dX0_goThroughDay_91 : decode cX0_goThroughDay 91 = .ok (.putfield 26, 3) := by decide +kernel
theorem dX0_goThroughDay_94 : decode cX0_goThroughDay 94 = .ok (.return_, 1) := by decide +kernel
set_option maxRecDepth 20000 in
theorem ggX0_feed_X0_takeInWater : GoodIn wsX0_feed wsX0_takeInWater := goodIn_r _ [4, 5, 6, 7, 8] (by decide +kernel) (by decide +kernel)
set_option maxRecDepth 20000 in
theorem gX0_feed_X0_takeInWater : GoodIn wsX0_feed (va_wsS RX0 83 yX0_takeInWater wsX0_takeInWater) := goodIn_app (goodIn_of _ (by decide +kernel)) ggX0_feed_X0_takeInWater
set_option maxRecDepth 20000 in
theorem ggX0_feed_X0_takeInMud : GoodIn wsX0_feed wsX0_takeInMud := goodIn_r _ [11, 12, 13, 7, 14] (by decide +kernel) (by decide +kernel)
set_option maxRecDepth 20000 in
theorem gX0_feed_X0_takeInMud : GoodIn wsX0_feed (va_wsS RX0 87 yX0_takeInMud wsX0_takeInMud) := goodIn_app (goodIn_of _ (by decide +kernel)) ggX0_feed_X0_takeInMud
theorem dX0_feed_0 : decode cX0_feed 0 = .ok (.aload_n 0, 1) := by decide +kernel
theorem dX0_feed_1 : decode cX0_feed 1 = .ok (.aload_n 0, 1) := by decide +kernel
theorem dX0_feed_2 : decode cX0_feed 2 = .ok (.iconst 1, 1) := by decide +kernel
theorem dX0_feed_3 : decode cX0_feed 3 = .ok (.iaload, 1) := by decide +kernel
theorem dX0_feed_4 : decode cX0_feed 4 = .ok (.invokestatic 83, 3) := by decide +kernel
theorem dX0_feed_7 : decode cX0_feed 7 = .ok (.aload_n 0, 1) := by decide +kernel
theorem dX0_feed_8 : decode cX0_feed 8 = .ok (.aload_n 0, 1) := by decide +kernel
theorem dX0_feed_9 : decode cX0_feed 9 = .ok (.iconst 1, 1) := by decide +kernel
theorem dX0_feed_10 : decode cX0_feed 10 = .ok (.iaload, 1) := by decide +kernel
theorem dX0_feed_11 : decode cX0_feed 11 = .ok (.iconst 4, 1) := by decide +kernel
theorem dX0_feed_12 : decode cX0_feed 12 = .ok (.idiv, 1) := by decide +kernel
theorem dX0_feed_13 : decode cX0_feed 13 = .ok (.invokestatic 87, 3) := by decide +kernel
theorem dX0_feed_16 : decode cX0_feed 16 = .ok (.return_, 1) := by decide +kernel
set_option maxRecDepth 20000 in
theorem ggX0_flowThrough_X0_whatCanFlow : GoodIn wsX0_flowThrough wsX0_whatCanFlow := goodIn_r _ [11, 1, 2, 12, 13, 5, 14, 3, 4, 6, 15, 16, 10, 17, 27, 28, 29, 30, 31] (by decide +kernel) (by decide +kernel)
set_option maxRecDepth 20000 in
theorem gX0_flowThrough_X0_whatCanFlow : GoodIn wsX0_flowThrough (wsV RX0 35 RX0 yX0_whatCanFlow wsX0_whatCanFlow) := goodIn_app (goodIn_of _ (by decide +kernel)) ggX0_flowThrough_X0_whatCanFlow
set_option maxRecDepth 20000 in
theorem ggX0_flowThrough_X0_wanderMud : GoodIn wsX0_flowThrough wsX0_wanderMud := goodIn_r _ [20, 21, 22, 10, 23, 3, 4, 5, 6] (by decide +kernel) (by decide +kernel)
set_option maxRecDepth 20000 in
theorem gX0_flowThrough_X0_wanderMud : GoodIn wsX0_flowThrough (va_wsS RX0 90 yX0_wanderMud wsX0_wanderMud) := goodIn_app (goodIn_of _ (by decide +kernel)) ggX0_flowThrough_X0_wanderMud
set_option maxRecDepth 20000 in
theorem ggX0_flowThrough_X0_takeInWater : GoodIn wsX0_flowThrough wsX0_takeInWater := goodIn_r _ [26, 12, 13, 5, 14] (by decide +kernel) (by decide +kernel)
set_option maxRecDepth 20000 in
theorem gX0_flowThrough_X0_takeInWater : GoodIn wsX0_flowThrough (va_wsS RX0 83 yX0_takeInWater wsX0_takeInWater) := goodIn_app (goodIn_of _ (by decide +kernel)) ggX0_flowThrough_X0_takeInWater
theorem dX0_flowThrough_0 : decode cX0_flowThrough 0 = .ok (.aload_n 0, 1) := by decide +kernel
theorem dX0_flowThrough_1 : decode cX0_flowThrough 1 = .ok (.getfield 16, 3) := by decide +kernel
theorem dX0_flowThrough_4 : decode cX0_flowThrough 4 = .ok (.iload_n 1, 1) := by decide +kernel
theorem dX0_flowThrough_5 : decode cX0_flowThrough 5 = .ok (.aaload, 1) := by decide +kernel
theorem dX0_flowThrough_6 : decode cX0_flowThrough 6 = .ok (.astore_n 2, 1) := by decide +kernel
theorem dX0_flowThrough_7 : decode cX0_flowThrough 7 = .ok (.aload_n 0, 1) := by decide +kernel
theorem dX0_flowThrough_8 : decode cX0_flowThrough 8 = .ok (.getfield 13, 3) := by decide +kernel
theorem dX0_flowThrough_11 : decode cX0_flowThrough 11 = .ok (.aload_n 2, 1) := by decide +kernel
theorem dX0_flowThrough_12 : decode cX0_flowThrough 12 = .ok (.iconst 0, 1) := by decide +kernel
theorem dX0_flowThrough_13 : decode cX0_flowThrough 13 = .ok (.iaload, 1) := by decide +kernel
theorem dX0_flowThrough_14 : decode cX0_flowThrough 14 = .ok (.aaload, 1) := by decide +kernel
theorem dX0_flowThrough_15 : decode cX0_flowThrough 15 = .ok (.astore_n 3, 1) := by decide +kernel
theorem dX0_flowThrough_16 : decode cX0_flowThrough 16 = .ok (.aload_n 0, 1) := by decide +kernel
theorem dX0_flowThrough_17 : decode cX0_flowThrough 17 = .ok (.getfield 13, 3) := by decide +kernel
theorem dX0_flowThrough_20 : decode cX0_flowThrough 20 = .ok (.aload_n 2, 1) := by decide +kernel
theorem dX0_flowThrough_21 : decode cX0_flowThrough 21 = .ok (.iconst 1, 1) := by decide +kernel
theorem dX0_flowThrough_22 : decode cX0_flowThrough 22 = .ok (.iaload, 1) := by decide +kernel
theorem dX0_flowThrough_23 : decode cX0_flowThrough 23 = .ok (.aaload, 1) := by decide +kernel
theorem dX0_flowThrough_24 : decode cX0_flowThrough 24 = .ok (.astore 4, 2) := by decide +kernel
theorem dX0_flowThrough_26 : decode cX0_flowThrough 26 = .ok (.aload_n 0, 1) := by decide +kernel
theorem dX0_flowThrough_27 : decode cX0_flowThrough 27 = .ok (.iload_n 1, 1) := by decide +kernel
theorem dX0_flowThrough_28 : decode cX0_flowThrough 28 = .ok (.invokevirtual 35, 3) := by decide +kernel
theorem dX0_flowThrough_31 : decode cX0_flowThrough 31 = .ok (.istore 5, 2) := by decide +kernel
theorem dX0_flowThrough_33 : decode cX0_flowThrough 33 = .ok (.aload_n 2, 1) := by decide +kernel
theorem dX0_flowThrough_34 : decode cX0_flowThrough 34 = .ok (.bipush 9, 2) := by decide +kernel
theorem dX0_flowThrough_36 : decode cX0_flowThrough 36 = .ok (.iaload, 1) := by decide +kernel
theorem dX0_flowThrough_37 : decode cX0_flowThrough 37 = .ok (.iload 5, 2) := by decide +kernel
theorem dX0_flowThrough_39 : decode cX0_flowThrough 39 = .ok (.invokestatic 63, 3) := by decide +kernel
theorem dX0_flowThrough_42 : decode cX0_flowThrough 42 = .ok (.istore 6, 2) := by decide +kernel
theorem dX0_flowThrough_44 : decode cX0_flowThrough 44 = .ok (.aload_n 3, 1) := by decide +kernel
theorem dX0_flowThrough_45 : decode cX0_flowThrough 45 = .ok (.aload 4, 2) := by decide +kernel
theorem dX0_flowThrough_47 : decode cX0_flowThrough 47 = .ok (.iload 5, 2) := by decide +kernel
theorem dX0_flowThrough_49 : decode cX0_flowThrough 49 = .ok (.invokestatic 90, 3) := by decide +kernel
theorem dX0_flowThrough_52 : decode cX0_flowThrough 52 = .ok (.aload_n 3, 1) := by decide +kernel
theorem dX0_flowThrough_53 : decode cX0_flowThrough 53 = .ok (.iconst 3, 1) := by decide +kernel
theorem dX0_flowThrough_54 : decode cX0_flowThrough 54 = .ok (.dup2, 1) := by decide +kernel
theorem dX0_flowThrough_55 : decode cX0_flowThrough 55 = .ok (.iaload, 1) := by decide +kernel
theorem dX0_flowThrough_56 : decode cX0_flowThrough 56 = .ok (.iload 5, 2) := by decide +kernel
theorem dX0_flowThrough_58 : decode cX0_flowThrough 58 = .ok (.isub, 1) := by decide +kernel
theorem dX0_flowThrough_59 : decode cX0_flowThrough 59 = .ok (.iastore, 1) := by decide +kernel
theorem dX0_flowThrough_60 : decode cX0_flowThrough 60 = .ok (.aload 4, 2) := by decide +kernel
theorem dX0_flowThrough_62 : decode cX0_flowThrough 62 = .ok (.iload 5, 2) := by decide +kernel
theorem dX0_flowThrough_64 : decode cX0_flowThrough 64 = .ok (.iload 6, 2) := by decide +kernel
theorem dX0_flowThrough_66 : decode cX0_flowThrough 66 = .ok (.isub, 1) := by decide +kernel
theorem dX0_flowThrough_67 : decode cX0_flowThrough 67 = .ok (.invokestatic 83, 3) := by decide +kernel
theorem dX0_flowThrough_70 : decode cX0_flowThrough 70 = .ok (.aload_n 2, 1) := by decide +kernel
theorem dX0_flowThrough_71 : decode cX0_flowThrough 71 = .ok (.iconst 5, 1) := by decide +kernel
theorem dX0_flowThrough_72 : decode cX0_flowThrough 72 = .ok (.iload 5, 2) := by decide +kernel
theorem dX0_flowThrough_74 : decode cX0_flowThrough 74 = .ok (.iastore, 1) := by decide +kernel
theorem dX0_flowThrough_75 : decode cX0_flowThrough 75 = .ok (.aload_n 2, 1) := by decide +kernel
theorem dX0_flowThrough_76 : decode cX0_flowThrough 76 = .ok (.bipush 6, 2) := by decide +kernel
theorem dX0_flowThrough_78 : decode cX0_flowThrough 78 = .ok (.iload 6, 2) := by decide +kernel
theorem dX0_flowThrough_80 : decode cX0_flowThrough 80 = .ok (.iastore, 1) := by decide +kernel
theorem dX0_flowThrough_81 : decode cX0_flowThrough 81 = .ok (.aload_n 2, 1) := by decide +kernel
theorem dX0_flowThrough_82 : decode cX0_flowThrough 82 = .ok (.bipush 7, 2) := by decide +kernel
theorem dX0_flowThrough_84 : decode cX0_flowThrough 84 = .ok (.dup2, 1) := by decide +kernel
theorem dX0_flowThrough_85 : decode cX0_flowThrough 85 = .ok (.iaload, 1) := by decide +kernel
theorem dX0_flowThrough_86 : decode cX0_flowThrough 86 = .ok (.iload 6, 2) := by decide +kernel
theorem dX0_flowThrough_88 : decode cX0_flowThrough 88 = .ok (.iadd, 1) := by decide +kernel
theorem dX0_flowThrough_89 : decode cX0_flowThrough 89 = .ok (.iastore, 1) := by decide +kernel
theorem dX0_flowThrough_90 : decode cX0_flowThrough 90 = .ok (.return_, 1) := by decide +kernel
set_option maxRecDepth 20000 in
theorem ggX0_wanderMud_X0_takeInMud : GoodIn wsX0_wanderMud wsX0_takeInMud := goodIn_r _ [4, 5, 6, 7, 8] (by decide +kernel) (by decide +kernel)
set_option maxRecDepth 20000 in
theorem gX0_wanderMud_X0_takeInMud : GoodIn wsX0_wanderMud (va_wsS RX0 87 yX0_takeInMud wsX0_takeInMud) := goodIn_app (goodIn_of _ (by decide +kernel)) ggX0_wanderMud_X0_takeInMud
theorem dX0_wanderMud_0 : decode cX0_wanderMud 0 = .ok (.aload_n 0, 1) := by decide +kernel
theorem dX0_wanderMud_1 : decode cX0_wanderMud 1 = .ok (.iconst 3, 1) := by decide +kernel
theorem dX0_wanderMud_2 : decode cX0_wanderMud 2 = .ok (.iaload, 1) := by decide +kernel
theorem dX0_wanderMud_3 : decode cX0_wanderMud 3 = .ok (.ifCond .gt 4, 3) := by decide +kernel
theorem dX0_wanderMud_6 : decode cX0_wanderMud 6 = .ok (.return_, 1) := by decide +kernel
theorem dX0_wanderMud_7 : decode cX0_wanderMud 7 = .ok (.aload_n 0, 1) := by decide +kernel
theorem dX0_wanderMud_8 : decode cX0_wanderMud 8 = .ok (.iconst 4, 1) := by decide +kernel
theorem dX0_wanderMud_9 : decode cX0_wanderMud 9 = .ok (.iaload, 1) := by decide +kernel
theorem dX0_wanderMud_10 : decode cX0_wanderMud 10 = .ok (.iload_n 2, 1) := by decide +kernel
theorem dX0_wanderMud_11 : decode cX0_wanderMud 11 = .ok (.imul, 1) := by decide +kernel
theorem dX0_wanderMud_12 : decode cX0_wanderMud 12 = .ok (.aload_n 0, 1) := by decide +kernel
theorem dX0_wanderMud_13 : decode cX0_wanderMud 13 = .ok (.iconst 3, 1) := by decide +kernel
theorem dX0_wanderMud_14 : decode cX0_wanderMud 14 = .ok (.iaload, 1) := by decide +kernel
theorem dX0_wanderMud_15 : decode cX0_wanderMud 15 = .ok (.idiv, 1) := by decide +kernel
theorem dX0_wanderMud_16 : decode cX0_wanderMud 16 = .ok (.istore_n 3, 1) := by decide +kernel
theorem dX0_wanderMud_17 : decode cX0_wanderMud 17 = .ok (.aload_n 0, 1) := by decide +kernel
theorem dX0_wanderMud_18 : decode cX0_wanderMud 18 = .ok (.iconst 4, 1) := by decide +kernel
theorem dX0_wanderMud_19 : decode cX0_wanderMud 19 = .ok (.dup2, 1) := by decide +kernel
theorem dX0_wanderMud_20 : decode cX0_wanderMud 20 = .ok (.iaload, 1) := by decide +kernel
theorem dX0_wanderMud_21 : decode cX0_wanderMud 21 = .ok (.iload_n 3, 1) := by decide +kernel
theorem dX0_wanderMud_22 : decode cX0_wanderMud 22 = .ok (.isub, 1) := by decide +kernel
theorem dX0_wanderMud_23 : decode cX0_wanderMud 23 = .ok (.iastore, 1) := by decide +kernel
theorem dX0_wanderMud_24 : decode cX0_wanderMud 24 = .ok (.aload_n 1, 1) := by decide +kernel
theorem dX0_wanderMud_25 : decode cX0_wanderMud 25 = .ok (.iload_n 3, 1) := by decide +kernel
theorem dX0_wanderMud_26 : decode cX0_wanderMud 26 = .ok (.invokestatic 87, 3) := by decide +kernel
theorem dX0_wanderMud_29 : decode cX0_wanderMud 29 = .ok (.return_, 1) := by decide +kernel
theorem dX0_takeInWater_0 : decode cX0_takeInWater 0 = .ok (.aload_n 0, 1) := by decide +kernel
theorem dX0_takeInWater_1 : decode cX0_takeInWater 1 = .ok (.iconst 3, 1) := by decide +kernel
theorem dX0_takeInWater_2 : decode cX0_takeInWater 2 = .ok (.iaload, 1) := by decide +kernel
theorem dX0_takeInWater_3 : decode cX0_takeInWater 3 = .ok (.iload_n 1, 1) := by decide +kernel
theorem dX0_takeInWater_4 : decode cX0_takeInWater 4 = .ok (.iadd, 1) := by decide +kernel
theorem dX0_takeInWater_5 : decode cX0_takeInWater 5 = .ok (.istore_n 2, 1) := by decide +kernel
theorem dX0_takeInWater_6 : decode cX0_takeInWater 6 = .ok (.iconst 0, 1) := by decide +kernel
theorem dX0_takeInWater_7 : decode cX0_takeInWater 7 = .ok (.iload_n 2, 1) := by decide +kernel
theorem dX0_takeInWater_8 : decode cX0_takeInWater 8 = .ok (.sipush 200, 3) := by decide +kernel
theorem dX0_takeInWater_11 : decode cX0_takeInWater 11 = .ok (.isub, 1) := by decide +kernel
theorem dX0_takeInWater_12 : decode cX0_takeInWater 12 = .ok (.invokestatic 57, 3) := by decide +kernel
theorem dX0_takeInWater_15 : decode cX0_takeInWater 15 = .ok (.istore_n 3, 1) := by decide +kernel
theorem dX0_takeInWater_16 : decode cX0_takeInWater 16 = .ok (.aload_n 0, 1) := by decide +kernel
theorem dX0_takeInWater_17 : decode cX0_takeInWater 17 = .ok (.iconst 3, 1) := by decide +kernel
theorem dX0_takeInWater_18 : decode cX0_takeInWater 18 = .ok (.iload_n 2, 1) := by decide +kernel
theorem dX0_takeInWater_19 : decode cX0_takeInWater 19 = .ok (.iload_n 3, 1) := by decide +kernel
theorem dX0_takeInWater_20 : decode cX0_takeInWater 20 = .ok (.isub, 1) := by decide +kernel
theorem dX0_takeInWater_21 : decode cX0_takeInWater 21 = .ok (.iastore, 1) := by decide +kernel
theorem dX0_takeInWater_22 : decode cX0_takeInWater 22 = .ok (.aload_n 0, 1) := by decide +kernel
theorem dX0_takeInWater_23 : decode cX0_takeInWater 23 = .ok (.bipush 7, 2) := by decide +kernel
theorem dX0_takeInWater_25 : decode cX0_takeInWater 25 = .ok (.dup2, 1) := by decide +kernel
theorem dX0_takeInWater_26 : decode cX0_takeInWater 26 = .ok (.iaload, 1) := by decide +kernel
theorem dX0_takeInWater_27 : decode cX0_takeInWater 27 = .ok (.iload_n 3, 1) := by decide +kernel
theorem dX0_takeInWater_28 : decode cX0_takeInWater 28 = .ok (.iadd, 1) := by decide +kernel
theorem dX0_takeInWater_29 : decode cX0_takeInWater 29 = .ok (.iastore, 1) := by decide +kernel
theorem dX0_takeInWater_30 : decode cX0_takeInWater 30 = .ok (.return_, 1) := by decide +kernel
theorem dX0_takeInMud_0 : decode cX0_takeInMud 0 = .ok (.aload_n 0, 1) := by decide +kernel
theorem dX0_takeInMud_1 : decode cX0_takeInMud 1 = .ok (.iconst 4, 1) := by decide +kernel
theorem dX0_takeInMud_2 : decode cX0_takeInMud 2 = .ok (.bipush 99, 2) := by decide +kernel
theorem dX0_takeInMud_4 : decode cX0_takeInMud 4 = .ok (.aload_n 0, 1) := by decide +kernel
theorem dX0_takeInMud_5 : decode cX0_takeInMud 5 = .ok (.iconst 4, 1) := by decide +kernel
theorem dX0_takeInMud_6 : decode cX0_takeInMud 6 = .ok (.iaload, 1) := by decide +kernel
theorem dX0_takeInMud_7 : decode cX0_takeInMud 7 = .ok (.iload_n 1, 1) := by decide +kernel
theorem dX0_takeInMud_8 : decode cX0_takeInMud 8 = .ok (.iadd, 1) := by decide +kernel
theorem dX0_takeInMud_9 : decode cX0_takeInMud 9 = .ok (.invokestatic 63, 3) := by decide +kernel
theorem dX0_takeInMud_12 : decode cX0_takeInMud 12 = .ok (.iastore, 1) := by decide +kernel
theorem dX0_takeInMud_13 : decode cX0_takeInMud 13 = .ok (.return_, 1) := by decide +kernel
theorem dX0_growCrusts_0 : decode cX0_growCrusts 0 = .ok (.iconst 0, 1) := by decide +kernel
theorem dX0_growCrusts_1 : decode cX0_growCrusts 1 = .ok (.istore_n 1, 1) := by decide +kernel
theorem dX0_growCrusts_2 : decode cX0_growCrusts 2 = .ok (.iload_n 1, 1) := by decide +kernel
theorem dX0_growCrusts_3 : decode cX0_growCrusts 3 = .ok (.aload_n 0, 1) := by decide +kernel
theorem dX0_growCrusts_4 : decode cX0_growCrusts 4 = .ok (.getfield 23, 3) := by decide +kernel
theorem dX0_growCrusts_7 : decode cX0_growCrusts 7 = .ok (.if_icmp .ge 35, 3) := by decide +kernel
theorem dX0_growCrusts_10 : decode cX0_growCrusts 10 = .ok (.aload_n 0, 1) := by decide +kernel
theorem dX0_growCrusts_11 : decode cX0_growCrusts 11 = .ok (.getfield 16, 3) := by decide +kernel
theorem dX0_growCrusts_14 : decode cX0_growCrusts 14 = .ok (.iload_n 1, 1) := by decide +kernel
theorem dX0_growCrusts_15 : decode cX0_growCrusts 15 = .ok (.aaload, 1) := by decide +kernel
theorem dX0_growCrusts_16 : decode cX0_growCrusts 16 = .ok (.astore_n 2, 1) := by decide +kernel
theorem dX0_growCrusts_17 : decode cX0_growCrusts 17 = .ok (.aload_n 2, 1) := by decide +kernel
theorem dX0_growCrusts_18 : decode cX0_growCrusts 18 = .ok (.iconst 5, 1) := by decide +kernel
theorem dX0_growCrusts_19 : decode cX0_growCrusts 19 = .ok (.iaload, 1) := by decide +kernel
theorem dX0_growCrusts_20 : decode cX0_growCrusts 20 = .ok (.ifCond .le 16, 3) := by decide +kernel
theorem dX0_growCrusts_23 : decode cX0_growCrusts 23 = .ok (.aload_n 2, 1) := by decide +kernel
theorem dX0_growCrusts_24 : decode cX0_growCrusts 24 = .ok (.iconst 4, 1) := by decide +kernel
theorem dX0_growCrusts_25 : decode cX0_growCrusts 25 = .ok (.bipush 20, 2) := by decide +kernel
theorem dX0_growCrusts_27 : decode cX0_growCrusts 27 = .ok (.aload_n 2, 1) := by decide +kernel
theorem dX0_growCrusts_28 : decode cX0_growCrusts 28 = .ok (.iconst 4, 1) := by decide +kernel
theorem dX0_growCrusts_29 : decode cX0_growCrusts 29 = .ok (.iaload, 1) := by decide +kernel
theorem dX0_growCrusts_30 : decode cX0_growCrusts 30 = .ok (.iconst 1, 1) := by decide +kernel
theorem dX0_growCrusts_31 : decode cX0_growCrusts 31 = .ok (.iadd, 1) := by decide +kernel
theorem dX0_growCrusts_32 : decode cX0_growCrusts 32 = .ok (.invokestatic 63, 3) := by decide +kernel
theorem dX0_growCrusts_35 : decode cX0_growCrusts 35 = .ok (.iastore, 1) := by decide +kernel
theorem dX0_growCrusts_36 : decode cX0_growCrusts 36 = .ok (.iinc 1 1, 3) := by decide +kernel
theorem dX0_growCrusts_39 : decode cX0_growCrusts 39 = .ok (.goto (-37), 3) := by decide +kernel
theorem dX0_growCrusts_42 : decode cX0_growCrusts 42 = .ok (.return_, 1) := by decide +kernel
theorem dX0_drinkFrom_0 : decode cX0_drinkFrom 0 = .ok (.aload_n 0, 1) := by decide +kernel
theorem dX0_drinkFrom_1 : decode cX0_drinkFrom 1 = .ok (.iconst 4, 1) := by decide +kernel
theorem dX0_drinkFrom_2 : decode cX0_drinkFrom 2 = .ok (.iaload, 1) := by decide +kernel
theorem dX0_drinkFrom_3 : decode cX0_drinkFrom 3 = .ok (.bipush 50, 2) := by decide +kernel
theorem dX0_drinkFrom_5 : decode cX0_drinkFrom 5 = .ok (.if_icmp .lt 11, 3) := by decide +kernel
theorem dX0_drinkFrom_8 : decode cX0_drinkFrom 8 = .ok (.aload_n 0, 1) := by decide +kernel
theorem dX0_drinkFrom_9 : decode cX0_drinkFrom 9 = .ok (.iconst 2, 1) := by decide +kernel
theorem dX0_drinkFrom_10 : decode cX0_drinkFrom 10 = .ok (.iaload, 1) := by decide +kernel
theorem dX0_drinkFrom_11 : decode cX0_drinkFrom 11 = .ok (.iconst 2, 1) := by decide +kernel
theorem dX0_drinkFrom_12 : decode cX0_drinkFrom 12 = .ok (.idiv, 1) := by decide +kernel
theorem dX0_drinkFrom_13 : decode cX0_drinkFrom 13 = .ok (.goto 6, 3) := by decide +kernel
theorem dX0_drinkFrom_16 : decode cX0_drinkFrom 16 = .ok (.aload_n 0, 1) := by decide +kernel
theorem dX0_drinkFrom_17 : decode cX0_drinkFrom 17 = .ok (.iconst 2, 1) := by decide +kernel
theorem dX0_drinkFrom_18 : decode cX0_drinkFrom 18 = .ok (.iaload, 1) := by decide +kernel
theorem dX0_drinkFrom_19 : decode cX0_drinkFrom 19 = .ok (.istore_n 1, 1) := by decide +kernel
theorem dX0_drinkFrom_20 : decode cX0_drinkFrom 20 = .ok (.iload_n 1, 1) := by decide +kernel
theorem dX0_drinkFrom_21 : decode cX0_drinkFrom 21 = .ok (.aload_n 0, 1) := by decide +kernel
theorem dX0_drinkFrom_22 : decode cX0_drinkFrom 22 = .ok (.iconst 3, 1) := by decide +kernel
theorem dX0_drinkFrom_23 : decode cX0_drinkFrom 23 = .ok (.iaload, 1) := by decide +kernel
theorem dX0_drinkFrom_24 : decode cX0_drinkFrom 24 = .ok (.invokestatic 63, 3) := by decide +kernel
theorem dX0_drinkFrom_27 : decode cX0_drinkFrom 27 = .ok (.istore_n 2, 1) := by decide +kernel
theorem dX0_drinkFrom_28 : decode cX0_drinkFrom 28 = .ok (.aload_n 0, 1) := by decide +kernel
theorem dX0_drinkFrom_29 : decode cX0_drinkFrom 29 = .ok (.iconst 3, 1) := by decide +kernel
theorem dX0_drinkFrom_30 : decode cX0_drinkFrom 30 = .ok (.dup2, 1) := by decide +kernel
theorem dX0_drinkFrom_31 : decode cX0_drinkFrom 31 = .ok (.iaload, 1) := by decide +kernel
theorem dX0_drinkFrom_32 : decode cX0_drinkFrom 32 = .ok (.iload_n 2, 1) := by decide +kernel
theorem dX0_drinkFrom_33 : decode cX0_drinkFrom 33 = .ok (.isub, 1) := by decide +kernel
theorem dX0_drinkFrom_34 : decode cX0_drinkFrom 34 = .ok (.iastore, 1) := by decide +kernel
theorem dX0_drinkFrom_35 : decode cX0_drinkFrom 35 = .ok (.aload_n 0, 1) := by decide +kernel
theorem dX0_drinkFrom_36 : decode cX0_drinkFrom 36 = .ok (.iconst 5, 1) := by decide +kernel
theorem dX0_drinkFrom_37 : decode cX0_drinkFrom 37 = .ok (.iload_n 2, 1) := by decide +kernel
theorem dX0_drinkFrom_38 : decode cX0_drinkFrom 38 = .ok (.iastore, 1) := by decide +kernel
theorem dX0_drinkFrom_39 : decode cX0_drinkFrom 39 = .ok (.aload_n 0, 1) := by decide +kernel
theorem dX0_drinkFrom_40 : decode cX0_drinkFrom 40 = .ok (.bipush 6, 2) := by decide +kernel
theorem dX0_drinkFrom_42 : decode cX0_drinkFrom 42 = .ok (.dup2, 1) := by decide +kernel
theorem dX0_drinkFrom_43 : decode cX0_drinkFrom 43 = .ok (.iaload, 1) := by decide +kernel
theorem dX0_drinkFrom_44 : decode cX0_drinkFrom 44 = .ok (.iload_n 2, 1) := by decide +kernel
theorem dX0_drinkFrom_45 : decode cX0_drinkFrom 45 = .ok (.iadd, 1) := by decide +kernel
theorem dX0_drinkFrom_46 : decode cX0_drinkFrom 46 = .ok (.iastore, 1) := by decide +kernel
theorem dX0_drinkFrom_47 : decode cX0_drinkFrom 47 = .ok (.return_, 1) := by decide +kernel
set_option maxRecDepth 20000 in
theorem ggX1_init_X0_init : GoodIn wsX1_init wsX0_init := goodIn_r _ [11, 12, 2, 3, 13, 14, 15, 16, 17, 18, 19, 20, 21] (by decide +kernel) (by decide +kernel)
set_option maxRecDepth 20000 in
theorem gX1_init_X0_init : GoodIn wsX1_init (wsX0_init) := ggX1_init_X0_init

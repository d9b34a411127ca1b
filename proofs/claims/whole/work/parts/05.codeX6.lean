theorem dX6_init_0 : decode cX6_init 0 = .ok (.aload_n 0, 1) := by decide +kernel
theorem dX6_init_1 : decode cX6_init 1 = .ok (.invokespecial 1, 3) := by decide +kernel
theorem dX6_init_4 : decode cX6_init 4 = .ok (.aload_n 0, 1) := by decide +kernel
theorem dX6_init_5 : decode cX6_init 5 = .ok (.bipush 20, 2) := by decide +kernel
theorem dX6_init_7 : decode cX6_init 7 = .ok (.newarray .int, 2) := by decide +kernel
theorem dX6_init_9 : decode cX6_init 9 = .ok (.putfield 7, 3) := by decide +kernel
theorem dX6_init_12 : decode cX6_init 12 = .ok (.aload_n 0, 1) := by decide +kernel
theorem dX6_init_13 : decode cX6_init 13 = .ok (.bipush 20, 2) := by decide +kernel
theorem dX6_init_15 : decode cX6_init 15 = .ok (.newarray .int, 2) := by decide +kernel
theorem dX6_init_17 : decode cX6_init 17 = .ok (.putfield 13, 3) := by decide +kernel
theorem dX6_init_20 : decode cX6_init 20 = .ok (.aload_n 0, 1) := by decide +kernel
theorem dX6_init_21 : decode cX6_init 21 = .ok (.bipush 20, 2) := by decide +kernel
theorem dX6_init_23 : decode cX6_init 23 = .ok (.newarray .int, 2) := by decide +kernel
theorem dX6_init_25 : decode cX6_init 25 = .ok (.putfield 16, 3) := by decide +kernel
theorem dX6_init_28 : decode cX6_init 28 = .ok (.aload_n 0, 1) := by decide +kernel
theorem dX6_init_29 : decode cX6_init 29 = .ok (.sipush 4096, 3) := by decide +kernel
theorem dX6_init_32 : decode cX6_init 32 = .ok (.newarray .int, 2) := by decide +kernel
theorem dX6_init_34 : decode cX6_init 34 = .ok (.putfield 19, 3) := by decide +kernel
theorem dX6_init_37 : decode cX6_init 37 = .ok (.aload_n 0, 1) := by decide +kernel
theorem dX6_init_38 : decode cX6_init 38 = .ok (.bipush 20, 2) := by decide +kernel
theorem dX6_init_40 : decode cX6_init 40 = .ok (.newarray .int, 2) := by decide +kernel
theorem dX6_init_42 : decode cX6_init 42 = .ok (.putfield 22, 3) := by decide +kernel
theorem dX6_init_45 : decode cX6_init 45 = .ok (.aload_n 0, 1) := by decide +kernel
theorem dX6_init_46 : decode cX6_init 46 = .ok (.bipush 100, 2) := by decide +kernel
theorem dX6_init_48 : decode cX6_init 48 = .ok (.newarray .int, 2) := by decide +kernel
theorem dX6_init_50 : decode cX6_init 50 = .ok (.putfield 25, 3) := by decide +kernel
theorem dX6_init_53 : decode cX6_init 53 = .ok (.aload_n 0, 1) := by decide +kernel
theorem dX6_init_54 : decode cX6_init 54 = .ok (.bipush 100, 2) := by decide +kernel
theorem dX6_init_56 : decode cX6_init 56 = .ok (.newarray .int, 2) := by decide +kernel
theorem dX6_init_58 : decode cX6_init 58 = .ok (.putfield 28, 3) := by decide +kernel
theorem dX6_init_61 : decode cX6_init 61 = .ok (.aload_n 0, 1) := by decide +kernel
theorem dX6_init_62 : decode cX6_init 62 = .ok (.bipush 100, 2) := by decide +kernel
theorem dX6_init_64 : decode cX6_init 64 = .ok (.newarray .int, 2) := by decide +kernel
theorem dX6_init_66 : decode cX6_init 66 = .ok (.putfield 31, 3) := by decide +kernel
theorem dX6_init_69 : decode cX6_init 69 = .ok (.aload_n 0, 1) := by decide +kernel
theorem dX6_init_70 : decode cX6_init 70 = .ok (.bipush 101, 2) := by decide +kernel
theorem dX6_init_72 : decode cX6_init 72 = .ok (.newarray .int, 2) := by decide +kernel
theorem dX6_init_74 : decode cX6_init 74 = .ok (.putfield 34, 3) := by decide +kernel
theorem dX6_init_77 : decode cX6_init 77 = .ok (.aload_n 0, 1) := by decide +kernel
theorem dX6_init_78 : decode cX6_init 78 = .ok (.bipush 101, 2) := by decide +kernel
theorem dX6_init_80 : decode cX6_init 80 = .ok (.newarray .int, 2) := by decide +kernel
theorem dX6_init_82 : decode cX6_init 82 = .ok (.putfield 37, 3) := by decide +kernel
theorem dX6_init_85 : decode cX6_init 85 = .ok (.aload_n 0, 1) := by decide +kernel
theorem dX6_init_86 : decode cX6_init 86 = .ok (.bipush 101, 2) := by decide +kernel
theorem dX6_init_88 : decode cX6_init 88 = .ok (.newarray .int, 2) := by decide +kernel
theorem dX6_init_90 : decode cX6_init 90 = .ok (.putfield 40, 3) := by decide +kernel
theorem dX6_init_93 : decode cX6_init 93 = .ok (.aload_n 0, 1) := by decide +kernel
theorem dX6_init_94 : decode cX6_init 94 = .ok (.sipush 4096, 3) := by decide +kernel
theorem dX6_init_97 : decode cX6_init 97 = .ok (.newarray .int, 2) := by decide +kernel
theorem dX6_init_99 : decode cX6_init 99 = .ok (.putfield 43, 3) := by decide +kernel
theorem dX6_init_102 : decode cX6_init 102 = .ok (.aload_n 0, 1) := by decide +kernel
theorem dX6_init_103 : decode cX6_init 103 = .ok (.bipush 20, 2) := by decide +kernel
theorem dX6_init_105 : decode cX6_init 105 = .ok (.putfield 46, 3) := by decide +kernel
theorem dX6_init_108 : decode cX6_init 108 = .ok (.aload_n 0, 1) := by decide +kernel
theorem dX6_init_109 : decode cX6_init 109 = .ok (.iconst 1, 1) := by decide +kernel
theorem dX6_init_110 : decode cX6_init 110 = .ok (.putfield 50, 3) := by decide +kernel
theorem dX6_init_113 : decode cX6_init 113 = .ok (.return_, 1) := by decide +kernel
theorem dX6_within_0 : decode cX6_within 0 = .ok (.iload_n 0, 1) := by decide +kernel
theorem dX6_within_1 : decode cX6_within 1 = .ok (.iload_n 1, 1) := by decide +kernel
theorem dX6_within_2 : decode cX6_within 2 = .ok (.if_icmp .lt 12, 3) := by decide +kernel
theorem dX6_within_5 : decode cX6_within 5 = .ok (.iload_n 0, 1) := by decide +kernel
theorem dX6_within_6 : decode cX6_within 6 = .ok (.iload_n 2, 1) := by decide +kernel
theorem dX6_within_7 : decode cX6_within 7 = .ok (.if_icmp .gt 7, 3) := by decide +kernel
theorem dX6_within_10 : decode cX6_within 10 = .ok (.iconst 1, 1) := by decide +kernel
theorem dX6_within_11 : decode cX6_within 11 = .ok (.goto 4, 3) := by decide +kernel
theorem dX6_within_14 : decode cX6_within 14 = .ok (.iconst 0, 1) := by decide +kernel
theorem dX6_within_15 : decode cX6_within 15 = .ok (.ireturn, 1) := by decide +kernel
set_option maxRecDepth 20000 in
theorem ggX6_isRouter_X6_within : GoodIn wsX6_isRouter wsX6_within := goodIn_r _ [5] (by decide +kernel) (by decide +kernel)
set_option maxRecDepth 20000 in
theorem gX6_isRouter_X6_within : GoodIn wsX6_isRouter (va_wsS RX6 56 yX6_within wsX6_within) := goodIn_app (goodIn_of _ (by decide +kernel)) ggX6_isRouter_X6_within
theorem dX6_isRouter_0 : decode cX6_isRouter 0 = .ok (.iload_n 1, 1) := by decide +kernel
theorem dX6_isRouter_1 : decode cX6_isRouter 1 = .ok (.iconst 0, 1) := by decide +kernel
theorem dX6_isRouter_2 : decode cX6_isRouter 2 = .ok (.aload_n 0, 1) := by decide +kernel
theorem dX6_isRouter_3 : decode cX6_isRouter 3 = .ok (.getfield 53, 3) := by decide +kernel
theorem dX6_isRouter_6 : decode cX6_isRouter 6 = .ok (.iconst 1, 1) := by decide +kernel
theorem dX6_isRouter_7 : decode cX6_isRouter 7 = .ok (.isub, 1) := by decide +kernel
theorem dX6_isRouter_8 : decode cX6_isRouter 8 = .ok (.invokestatic 56, 3) := by decide +kernel
theorem dX6_isRouter_11 : decode cX6_isRouter 11 = .ok (.ireturn, 1) := by decide +kernel
set_option maxRecDepth 20000 in
theorem ggX6_isAddress_X6_within : GoodIn wsX6_isAddress wsX6_within := goodIn_r _ [4] (by decide +kernel) (by decide +kernel)
set_option maxRecDepth 20000 in
theorem gX6_isAddress_X6_within : GoodIn wsX6_isAddress (va_wsS RX6 56 yX6_within wsX6_within) := goodIn_app (goodIn_of _ (by decide +kernel)) ggX6_isAddress_X6_within
theorem dX6_isAddress_0 : decode cX6_isAddress 0 = .ok (.iload_n 0, 1) := by decide +kernel
theorem dX6_isAddress_1 : decode cX6_isAddress 1 = .ok (.iconst 0, 1) := by decide +kernel
theorem dX6_isAddress_2 : decode cX6_isAddress 2 = .ok (.sipush 4095, 3) := by decide +kernel
theorem dX6_isAddress_5 : decode cX6_isAddress 5 = .ok (.invokestatic 56, 3) := by decide +kernel
theorem dX6_isAddress_8 : decode cX6_isAddress 8 = .ok (.ireturn, 1) := by decide +kernel
theorem dX6_isUsed_0 : decode cX6_isUsed 0 = .ok (.iconst 0, 1) := by decide +kernel
theorem dX6_isUsed_1 : decode cX6_isUsed 1 = .ok (.istore_n 2, 1) := by decide +kernel
theorem dX6_isUsed_2 : decode cX6_isUsed 2 = .ok (.iload_n 2, 1) := by decide +kernel
theorem dX6_isUsed_3 : decode cX6_isUsed 3 = .ok (.aload_n 0, 1) := by decide +kernel
theorem dX6_isUsed_4 : decode cX6_isUsed 4 = .ok (.getfield 53, 3) := by decide +kernel
theorem dX6_isUsed_7 : decode cX6_isUsed 7 = .ok (.if_icmp .ge 21, 3) := by decide +kernel
theorem dX6_isUsed_10 : decode cX6_isUsed 10 = .ok (.aload_n 0, 1) := by decide +kernel
theorem dX6_isUsed_11 : decode cX6_isUsed 11 = .ok (.getfield 13, 3) := by decide +kernel
theorem dX6_isUsed_14 : decode cX6_isUsed 14 = .ok (.iload_n 2, 1) := by decide +kernel
theorem dX6_isUsed_15 : decode cX6_isUsed 15 = .ok (.iaload, 1) := by decide +kernel
theorem dX6_isUsed_16 : decode cX6_isUsed 16 = .ok (.iload_n 1, 1) := by decide +kernel
theorem dX6_isUsed_17 : decode cX6_isUsed 17 = .ok (.if_icmp .ne 5, 3) := by decide +kernel
theorem dX6_isUsed_20 : decode cX6_isUsed 20 = .ok (.iconst 1, 1) := by decide +kernel
theorem dX6_isUsed_21 : decode cX6_isUsed 21 = .ok (.ireturn, 1) := by decide +kernel
theorem dX6_isUsed_22 : decode cX6_isUsed 22 = .ok (.iinc 2 1, 3) := by decide +kernel
theorem dX6_isUsed_25 : decode cX6_isUsed 25 = .ok (.goto (-23), 3) := by decide +kernel
theorem dX6_isUsed_28 : decode cX6_isUsed 28 = .ok (.iconst 0, 1) := by decide +kernel
theorem dX6_isUsed_29 : decode cX6_isUsed 29 = .ok (.ireturn, 1) := by decide +kernel
set_option maxRecDepth 20000 in
theorem ggX6_addRouter_X6_isRouter : GoodIn wsX6_addRouter wsX6_isRouter := goodIn_r _ [9, 1, 10, 11, 8, 12, 20, 21, 22, 23, 24, 25, 26, 27, 28, 29, 30, 31, 32, 33, 34, 35, 36, 37, 38, 39, 40, 41, 42, 43] (by decide +kernel) (by decide +kernel)
set_option maxRecDepth 20000 in
theorem gX6_addRouter_X6_isRouter : GoodIn wsX6_addRouter (wsV RX6 60 RX6 yX6_isRouter wsX6_isRouter) := goodIn_app (goodIn_of _ (by decide +kernel)) ggX6_addRouter_X6_isRouter
set_option maxRecDepth 20000 in
theorem ggX6_addRouter_X6_isAddress : GoodIn wsX6_addRouter wsX6_isAddress := goodIn_r _ [15, 10, 11, 8, 12] (by decide +kernel) (by decide +kernel)
set_option maxRecDepth 20000 in
theorem gX6_addRouter_X6_isAddress : GoodIn wsX6_addRouter (va_wsS RX6 64 yX6_isAddress wsX6_isAddress) := goodIn_app (goodIn_of _ (by decide +kernel)) ggX6_addRouter_X6_isAddress
set_option maxRecDepth 20000 in
theorem ggX6_addRouter_X6_isUsed : GoodIn wsX6_addRouter wsX6_isUsed := goodIn_r _ [19, 1, 4, 20, 21, 22, 23, 24, 25, 26, 27, 28, 29, 30, 31, 32, 33, 34, 35, 36, 37, 38, 39, 40, 41, 42, 43] (by decide +kernel) (by decide +kernel)
set_option maxRecDepth 20000 in
theorem gX6_addRouter_X6_isUsed : GoodIn wsX6_addRouter (wsV RX6 67 RX6 yX6_isUsed wsX6_isUsed) := goodIn_app (goodIn_of _ (by decide +kernel)) ggX6_addRouter_X6_isUsed
theorem dX6_addRouter_0 : decode cX6_addRouter 0 = .ok (.aload_n 0, 1) := by decide +kernel
theorem dX6_addRouter_1 : decode cX6_addRouter 1 = .ok (.getfield 53, 3) := by decide +kernel
theorem dX6_addRouter_4 : decode cX6_addRouter 4 = .ok (.ifCond .le 13, 3) := by decide +kernel
theorem dX6_addRouter_7 : decode cX6_addRouter 7 = .ok (.aload_n 0, 1) := by decide +kernel
theorem dX6_addRouter_8 : decode cX6_addRouter 8 = .ok (.iload_n 1, 1) := by decide +kernel
theorem dX6_addRouter_9 : decode cX6_addRouter 9 = .ok (.invokevirtual 60, 3) := by decide +kernel
theorem dX6_addRouter_12 : decode cX6_addRouter 12 = .ok (.ifCond .ne 5, 3) := by decide +kernel
theorem dX6_addRouter_15 : decode cX6_addRouter 15 = .ok (.iconst (-1), 1) := by decide +kernel
theorem dX6_addRouter_16 : decode cX6_addRouter 16 = .ok (.ireturn, 1) := by decide +kernel
theorem dX6_addRouter_17 : decode cX6_addRouter 17 = .ok (.iload_n 2, 1) := by decide +kernel
theorem dX6_addRouter_18 : decode cX6_addRouter 18 = .ok (.invokestatic 64, 3) := by decide +kernel
theorem dX6_addRouter_21 : decode cX6_addRouter 21 = .ok (.ifCond .ne 6, 3) := by decide +kernel
theorem dX6_addRouter_24 : decode cX6_addRouter 24 = .ok (.bipush (-2), 2) := by decide +kernel
theorem dX6_addRouter_26 : decode cX6_addRouter 26 = .ok (.ireturn, 1) := by decide +kernel
theorem dX6_addRouter_27 : decode cX6_addRouter 27 = .ok (.aload_n 0, 1) := by decide +kernel
theorem dX6_addRouter_28 : decode cX6_addRouter 28 = .ok (.iload_n 2, 1) := by decide +kernel
theorem dX6_addRouter_29 : decode cX6_addRouter 29 = .ok (.invokevirtual 67, 3) := by decide +kernel
theorem dX6_addRouter_32 : decode cX6_addRouter 32 = .ok (.ifCond .eq 6, 3) := by decide +kernel
theorem dX6_addRouter_35 : decode cX6_addRouter 35 = .ok (.bipush (-3), 2) := by decide +kernel
theorem dX6_addRouter_37 : decode cX6_addRouter 37 = .ok (.ireturn, 1) := by decide +kernel
theorem dX6_addRouter_38 : decode cX6_addRouter 38 = .ok (.aload_n 0, 1) := by decide +kernel
theorem dX6_addRouter_39 : decode cX6_addRouter 39 = .ok (.getfield 53, 3) := by decide +kernel
theorem dX6_addRouter_42 : decode cX6_addRouter 42 = .ok (.bipush 20, 2) := by decide +kernel
theorem dX6_addRouter_44 : decode cX6_addRouter 44 = .ok (.if_icmp .ne 6, 3) := by decide +kernel
theorem dX6_addRouter_47 : decode cX6_addRouter 47 = .ok (.bipush (-4), 2) := by decide +kernel
theorem dX6_addRouter_49 : decode cX6_addRouter 49 = .ok (.ireturn, 1) := by decide +kernel
theorem dX6_addRouter_50 : decode cX6_addRouter 50 = .ok (.aload_n 0, 1) := by decide +kernel
theorem dX6_addRouter_51 : decode cX6_addRouter 51 = .ok (.getfield 7, 3) := by decide +kernel
theorem dX6_addRouter_54 : decode cX6_addRouter 54 = .ok (.aload_n 0, 1) := by decide +kernel
theorem dX6_addRouter_55 : decode cX6_addRouter 55 = .ok (.getfield 53, 3) := by decide +kernel
theorem dX6_addRouter_58 : decode cX6_addRouter 58 = .ok (.aload_n 0, 1) := by decide +kernel
theorem dX6_addRouter_59 : decode cX6_addRouter 59 = .ok (.getfield 53, 3) := by decide +kernel
theorem dX6_addRouter_62 : decode cX6_addRouter 62 = .ok (.ifCond .ne 8, 3) := by decide +kernel
theorem dX6_addRouter_65 : decode cX6_addRouter 65 = .ok (.bipush (-7), 2) := by decide +kernel
theorem dX6_addRouter_67 : decode cX6_addRouter 67 = .ok (.goto 4, 3) := by decide +kernel
theorem dX6_addRouter_70 : decode cX6_addRouter 70 = .ok (.iload_n 1, 1) := by decide +kernel
theorem dX6_addRouter_71 : decode cX6_addRouter 71 = .ok (.iastore, 1) := by decide +kernel
theorem dX6_addRouter_72 : decode cX6_addRouter 72 = .ok (.aload_n 0, 1) := by decide +kernel
theorem dX6_addRouter_73 : decode cX6_addRouter 73 = .ok (.getfield 16, 3) := by decide +kernel
theorem dX6_addRouter_76 : decode cX6_addRouter 76 = .ok (.aload_n 0, 1) := by decide +kernel
theorem dX6_addRouter_77 : decode cX6_addRouter 77 = .ok (.getfield 53, 3) := by decide +kernel
theorem dX6_addRouter_80 : decode cX6_addRouter 80 = .ok (.aload_n 0, 1) := by decide +kernel
theorem dX6_addRouter_81 : decode cX6_addRouter 81 = .ok (.getfield 53, 3) := by decide +kernel
theorem dX6_addRouter_84 : decode cX6_addRouter 84 = .ok (.ifCond .ne 7, 3) := by decide +kernel
theorem dX6_addRouter_87 : decode cX6_addRouter 87 = .ok (.iconst 0, 1) := by decide +kernel
theorem dX6_addRouter_88 : decode cX6_addRouter 88 = .ok (.goto 11, 3) := by decide +kernel
theorem dX6_addRouter_91 : decode cX6_addRouter 91 = .ok (.aload_n 0, 1) := by decide +kernel
theorem dX6_addRouter_92 : decode cX6_addRouter 92 = .ok (.getfield 16, 3) := by decide +kernel
theorem dX6_addRouter_95 : decode cX6_addRouter 95 = .ok (.iload_n 1, 1) := by decide +kernel
theorem dX6_addRouter_96 : decode cX6_addRouter 96 = .ok (.iaload, 1) := by decide +kernel
theorem dX6_addRouter_97 : decode cX6_addRouter 97 = .ok (.iconst 1, 1) := by decide +kernel
theorem dX6_addRouter_98 : decode cX6_addRouter 98 = .ok (.iadd, 1) := by decide +kernel
theorem dX6_addRouter_99 : decode cX6_addRouter 99 = .ok (.iastore, 1) := by decide +kernel
theorem dX6_addRouter_100 : decode cX6_addRouter 100 = .ok (.aload_n 0, 1) := by decide +kernel
theorem dX6_addRouter_101 : decode cX6_addRouter 101 = .ok (.getfield 13, 3) := by decide +kernel
theorem dX6_addRouter_104 : decode cX6_addRouter 104 = .ok (.aload_n 0, 1) := by decide +kernel
theorem dX6_addRouter_105 : decode cX6_addRouter 105 = .ok (.getfield 53, 3) := by decide +kernel
theorem dX6_addRouter_108 : decode cX6_addRouter 108 = .ok (.iload_n 2, 1) := by decide +kernel
theorem dX6_addRouter_109 : decode cX6_addRouter 109 = .ok (.iastore, 1) := by decide +kernel
theorem dX6_addRouter_110 : decode cX6_addRouter 110 = .ok (.aload_n 0, 1) := by decide +kernel
theorem dX6_addRouter_111 : decode cX6_addRouter 111 = .ok (.dup, 1) := by decide +kernel
theorem dX6_addRouter_112 : decode cX6_addRouter 112 = .ok (.getfield 53, 3) := by decide +kernel
theorem dX6_addRouter_115 : decode cX6_addRouter 115 = .ok (.iconst 1, 1) := by decide +kernel
theorem dX6_addRouter_116 : decode cX6_addRouter 116 = .ok (.iadd, 1) := by decide +kernel
theorem dX6_addRouter_117 : decode cX6_addRouter 117 = .ok (.putfield 53, 3) := by decide +kernel
theorem dX6_addRouter_120 : decode cX6_addRouter 120 = .ok (.aload_n 0, 1) := by decide +kernel
theorem dX6_addRouter_121 : decode cX6_addRouter 121 = .ok (.getfield 53, 3) := by decide +kernel
theorem dX6_addRouter_124 : decode cX6_addRouter 124 = .ok (.iconst 1, 1) := by decide +kernel
theorem dX6_addRouter_125 : decode cX6_addRouter 125 = .ok (.isub, 1) := by decide +kernel
theorem dX6_addRouter_126 : decode cX6_addRouter 126 = .ok (.ireturn, 1) := by decide +kernel
theorem dX6_routerCount_0 : decode cX6_routerCount 0 = .ok (.aload_n 0, 1) := by decide +kernel
theorem dX6_routerCount_1 : decode cX6_routerCount 1 = .ok (.getfield 53, 3) := by decide +kernel
theorem dX6_routerCount_4 : decode cX6_routerCount 4 = .ok (.ireturn, 1) := by decide +kernel
set_option maxRecDepth 20000 in
theorem ggX6_depth_X6_isRouter : GoodIn wsX6_depth wsX6_isRouter := goodIn_r _ [6, 7, 8, 9, 5, 10, 11, 12, 13, 14, 15, 16, 17, 18, 19, 20, 21, 22, 23, 24, 25, 26, 27, 28, 29, 30, 31, 32, 33, 34] (by decide +kernel) (by decide +kernel)
set_option maxRecDepth 20000 in
theorem gX6_depth_X6_isRouter : GoodIn wsX6_depth (wsV RX6 60 RX6 yX6_isRouter wsX6_isRouter) := goodIn_app (goodIn_of _ (by decide +kernel)) ggX6_depth_X6_isRouter
theorem dX6_depth_0 : decode cX6_depth 0 = .ok (.aload_n 0, 1) := by decide +kernel
theorem dX6_depth_1 : decode cX6_depth 1 = .ok (.iload_n 1, 1) := by decide +kernel
theorem dX6_depth_2 : decode cX6_depth 2 = .ok (.invokevirtual 60, 3) := by decide +kernel
theorem dX6_depth_5 : decode cX6_depth 5 = .ok (.ifCond .eq 12, 3) := by decide +kernel
theorem dX6_depth_8 : decode cX6_depth 8 = .ok (.aload_n 0, 1) := by decide +kernel
theorem dX6_depth_9 : decode cX6_depth 9 = .ok (.getfield 16, 3) := by decide +kernel
theorem dX6_depth_12 : decode cX6_depth 12 = .ok (.iload_n 1, 1) := by decide +kernel
theorem dX6_depth_13 : decode cX6_depth 13 = .ok (.iaload, 1) := by decide +kernel
theorem dX6_depth_14 : decode cX6_depth 14 = .ok (.goto 4, 3) := by decide +kernel
theorem dX6_depth_17 : decode cX6_depth 17 = .ok (.iconst (-1), 1) := by decide +kernel
theorem dX6_depth_18 : decode cX6_depth 18 = .ok (.ireturn, 1) := by decide +kernel
theorem dX6_digestOf_0 : decode cX6_digestOf 0 = .ok (.iload_n 0, 1) := by decide +kernel
theorem dX6_digestOf_1 : decode cX6_digestOf 1 = .ok (.sipush 167, 3) := by decide +kernel
theorem dX6_digestOf_4 : decode cX6_digestOf 4 = .ok (.imul, 1) := by decide +kernel
theorem dX6_digestOf_5 : decode cX6_digestOf 5 = .ok (.bipush 29, 2) := by decide +kernel
theorem dX6_digestOf_7 : decode cX6_digestOf 7 = .ok (.iadd, 1) := by decide +kernel
theorem dX6_digestOf_8 : decode cX6_digestOf 8 = .ok (.iconst 3, 1) := by decide +kernel
theorem dX6_digestOf_9 : decode cX6_digestOf 9 = .ok (.ishr, 1) := by decide +kernel
theorem dX6_digestOf_10 : decode cX6_digestOf 10 = .ok (.iload_n 0, 1) := by decide +kernel
theorem dX6_digestOf_11 : decode cX6_digestOf 11 = .ok (.ixor, 1) := by decide +kernel
theorem dX6_digestOf_12 : decode cX6_digestOf 12 = .ok (.sipush 255, 3) := by decide +kernel
theorem dX6_digestOf_15 : decode cX6_digestOf 15 = .ok (.iand, 1) := by decide +kernel
theorem dX6_digestOf_16 : decode cX6_digestOf 16 = .ok (.ireturn, 1) := by decide +kernel
set_option maxRecDepth 20000 in
theorem ggX6_wordOf_X6_digestOf : GoodIn wsX6_wordOf wsX6_digestOf := goodIn_r _ [4] (by decide +kernel) (by decide +kernel)
set_option maxRecDepth 20000 in
theorem gX6_wordOf_X6_digestOf : GoodIn wsX6_wordOf (va_wsS RX6 70 yX6_digestOf wsX6_digestOf) := goodIn_app (goodIn_of _ (by decide +kernel)) ggX6_wordOf_X6_digestOf
theorem dX6_wordOf_0 : decode cX6_wordOf 0 = .ok (.sipush 256, 3) := by decide +kernel
theorem dX6_wordOf_3 : decode cX6_wordOf 3 = .ok (.iload_n 0, 1) := by decide +kernel
theorem dX6_wordOf_4 : decode cX6_wordOf 4 = .ok (.imul, 1) := by decide +kernel
theorem dX6_wordOf_5 : decode cX6_wordOf 5 = .ok (.iload_n 0, 1) := by decide +kernel
theorem dX6_wordOf_6 : decode cX6_wordOf 6 = .ok (.invokestatic 70, 3) := by decide +kernel
theorem dX6_wordOf_9 : decode cX6_wordOf 9 = .ok (.iadd, 1) := by decide +kernel
theorem dX6_wordOf_10 : decode cX6_wordOf 10 = .ok (.ireturn, 1) := by decide +kernel
theorem dX6_fragmentOf_0 : decode cX6_fragmentOf 0 = .ok (.iload_n 0, 1) := by decide +kernel
theorem dX6_fragmentOf_1 : decode cX6_fragmentOf 1 = .ok (.iconst 5, 1) := by decide +kernel
theorem dX6_fragmentOf_2 : decode cX6_fragmentOf 2 = .ok (.iload_n 1, 1) := by decide +kernel
theorem dX6_fragmentOf_3 : decode cX6_fragmentOf 3 = .ok (.imul, 1) := by decide +kernel
theorem dX6_fragmentOf_4 : decode cX6_fragmentOf 4 = .ok (.ishr, 1) := by decide +kernel
theorem dX6_fragmentOf_5 : decode cX6_fragmentOf 5 = .ok (.bipush 31, 2) := by decide +kernel
theorem dX6_fragmentOf_7 : decode cX6_fragmentOf 7 = .ok (.iand, 1) := by decide +kernel
theorem dX6_fragmentOf_8 : decode cX6_fragmentOf 8 = .ok (.ireturn, 1) := by decide +kernel
set_option maxRecDepth 20000 in
theorem ggX6_digest_X6_isAddress : GoodIn wsX6_digest wsX6_isAddress := goodIn_r _ [4, 5, 6, 3, 7] (by decide +kernel) (by decide +kernel)
set_option maxRecDepth 20000 in
theorem gX6_digest_X6_isAddress : GoodIn wsX6_digest (va_wsS RX6 64 yX6_isAddress wsX6_isAddress) := goodIn_app (goodIn_of _ (by decide +kernel)) ggX6_digest_X6_isAddress
set_option maxRecDepth 20000 in
theorem ggX6_digest_X6_digestOf : GoodIn wsX6_digest wsX6_digestOf := goodIn_r _ [10] (by decide +kernel) (by decide +kernel)
set_option maxRecDepth 20000 in
theorem gX6_digest_X6_digestOf : GoodIn wsX6_digest (va_wsS RX6 70 yX6_digestOf wsX6_digestOf) := goodIn_app (goodIn_of _ (by decide +kernel)) ggX6_digest_X6_digestOf
theorem dX6_digest_0 : decode cX6_digest 0 = .ok (.iload_n 1, 1) := by decide +kernel
theorem dX6_digest_1 : decode cX6_digest 1 = .ok (.invokestatic 64, 3) := by decide +kernel
theorem dX6_digest_4 : decode cX6_digest 4 = .ok (.ifCond .eq 10, 3) := by decide +kernel
theorem dX6_digest_7 : decode cX6_digest 7 = .ok (.iload_n 1, 1) := by decide +kernel
theorem dX6_digest_8 : decode cX6_digest 8 = .ok (.invokestatic 70, 3) := by decide +kernel
theorem dX6_digest_11 : decode cX6_digest 11 = .ok (.goto 5, 3) := by decide +kernel
theorem dX6_digest_14 : decode cX6_digest 14 = .ok (.bipush (-2), 2) := by decide +kernel
theorem dX6_digest_16 : decode cX6_digest 16 = .ok (.ireturn, 1) := by decide +kernel
set_option maxRecDepth 20000 in
theorem ggX6_fragment_X6_isAddress : GoodIn wsX6_fragment wsX6_isAddress := goodIn_r _ [4, 5, 6, 3, 7] (by decide +kernel) (by decide +kernel)
set_option maxRecDepth 20000 in
theorem gX6_fragment_X6_isAddress : GoodIn wsX6_fragment (va_wsS RX6 64 yX6_isAddress wsX6_isAddress) := goodIn_app (goodIn_of _ (by decide +kernel)) ggX6_fragment_X6_isAddress
set_option maxRecDepth 20000 in
theorem ggX6_fragment_X6_within : GoodIn wsX6_fragment wsX6_within := goodIn_r _ [7] (by decide +kernel) (by decide +kernel)
set_option maxRecDepth 20000 in
theorem gX6_fragment_X6_within : GoodIn wsX6_fragment (va_wsS RX6 56 yX6_within wsX6_within) := goodIn_app (goodIn_of _ (by decide +kernel)) ggX6_fragment_X6_within
set_option maxRecDepth 20000 in
theorem ggX6_fragment_X6_wordOf : GoodIn wsX6_fragment wsX6_wordOf := goodIn_r _ [10, 11, 12, 3, 13] (by decide +kernel) (by decide +kernel)
set_option maxRecDepth 20000 in
theorem gX6_fragment_X6_wordOf : GoodIn wsX6_fragment (va_wsS RX6 74 yX6_wordOf wsX6_wordOf) := goodIn_app (goodIn_of _ (by decide +kernel)) ggX6_fragment_X6_wordOf
set_option maxRecDepth 20000 in
theorem ggX6_fragment_X6_fragmentOf : GoodIn wsX6_fragment wsX6_fragmentOf := goodIn_r _ [16] (by decide +kernel) (by decide +kernel)
set_option maxRecDepth 20000 in
theorem gX6_fragment_X6_fragmentOf : GoodIn wsX6_fragment (va_wsS RX6 77 yX6_fragmentOf wsX6_fragmentOf) := goodIn_app (goodIn_of _ (by decide +kernel)) ggX6_fragment_X6_fragmentOf
theorem dX6_fragment_0 : decode cX6_fragment 0 = .ok (.iload_n 1, 1) := by decide +kernel
theorem dX6_fragment_1 : decode cX6_fragment 1 = .ok (.invokestatic 64, 3) := by decide +kernel
theorem dX6_fragment_4 : decode cX6_fragment 4 = .ok (.ifCond .eq 23, 3) := by decide +kernel
theorem dX6_fragment_7 : decode cX6_fragment 7 = .ok (.iload_n 2, 1) := by decide +kernel
theorem dX6_fragment_8 : decode cX6_fragment 8 = .ok (.iconst 0, 1) := by decide +kernel
theorem dX6_fragment_9 : decode cX6_fragment 9 = .ok (.iconst 3, 1) := by decide +kernel
theorem dX6_fragment_10 : decode cX6_fragment 10 = .ok (.invokestatic 56, 3) := by decide +kernel
theorem dX6_fragment_13 : decode cX6_fragment 13 = .ok (.ifCond .eq 14, 3) := by decide +kernel
theorem dX6_fragment_16 : decode cX6_fragment 16 = .ok (.iload_n 1, 1) := by decide +kernel
theorem dX6_fragment_17 : decode cX6_fragment 17 = .ok (.invokestatic 74, 3) := by decide +kernel
theorem dX6_fragment_20 : decode cX6_fragment 20 = .ok (.iload_n 2, 1) := by decide +kernel
theorem dX6_fragment_21 : decode cX6_fragment 21 = .ok (.invokestatic 77, 3) := by decide +kernel
theorem dX6_fragment_24 : decode cX6_fragment 24 = .ok (.goto 5, 3) := by decide +kernel
theorem dX6_fragment_27 : decode cX6_fragment 27 = .ok (.bipush (-2), 2) := by decide +kernel
theorem dX6_fragment_29 : decode cX6_fragment 29 = .ok (.ireturn, 1) := by decide +kernel
set_option maxRecDepth 20000 in
theorem ggX6_setMarkingPercent_X6_within : GoodIn wsX6_setMarkingPercent wsX6_within := goodIn_r _ [5] (by decide +kernel) (by decide +kernel)
set_option maxRecDepth 20000 in
theorem gX6_setMarkingPercent_X6_within : GoodIn wsX6_setMarkingPercent (va_wsS RX6 56 yX6_within wsX6_within) := goodIn_app (goodIn_of _ (by decide +kernel)) ggX6_setMarkingPercent_X6_within
theorem dX6_setMarkingPercent_0 : decode cX6_setMarkingPercent 0 = .ok (.iload_n 1, 1) := by decide +kernel
theorem dX6_setMarkingPercent_1 : decode cX6_setMarkingPercent 1 = .ok (.iconst 1, 1) := by decide +kernel
theorem dX6_setMarkingPercent_2 : decode cX6_setMarkingPercent 2 = .ok (.bipush 100, 2) := by decide +kernel
theorem dX6_setMarkingPercent_4 : decode cX6_setMarkingPercent 4 = .ok (.invokestatic 56, 3) := by decide +kernel
theorem dX6_setMarkingPercent_7 : decode cX6_setMarkingPercent 7 = .ok (.ifCond .ne 6, 3) := by decide +kernel
theorem dX6_setMarkingPercent_10 : decode cX6_setMarkingPercent 10 = .ok (.bipush (-2), 2) := by decide +kernel
theorem dX6_setMarkingPercent_12 : decode cX6_setMarkingPercent 12 = .ok (.ireturn, 1) := by decide +kernel
theorem dX6_setMarkingPercent_13 : decode cX6_setMarkingPercent 13 = .ok (.aload_n 0, 1) := by decide +kernel
theorem dX6_setMarkingPercent_14 : decode cX6_setMarkingPercent 14 = .ok (.getfield 46, 3) := by decide +kernel
theorem dX6_setMarkingPercent_17 : decode cX6_setMarkingPercent 17 = .ok (.istore_n 2, 1) := by decide +kernel
theorem dX6_setMarkingPercent_18 : decode cX6_setMarkingPercent 18 = .ok (.aload_n 0, 1) := by decide +kernel
theorem dX6_setMarkingPercent_19 : decode cX6_setMarkingPercent 19 = .ok (.iload_n 1, 1) := by decide +kernel
theorem dX6_setMarkingPercent_20 : decode cX6_setMarkingPercent 20 = .ok (.putfield 46, 3) := by decide +kernel
theorem dX6_setMarkingPercent_23 : decode cX6_setMarkingPercent 23 = .ok (.iload_n 2, 1) := by decide +kernel
theorem dX6_setMarkingPercent_24 : decode cX6_setMarkingPercent 24 = .ok (.ireturn, 1) := by decide +kernel
theorem dX6_setSeed_0 : decode cX6_setSeed 0 = .ok (.aload_n 0, 1) := by decide +kernel
theorem dX6_setSeed_1 : decode cX6_setSeed 1 = .ok (.getfield 50, 3) := by decide +kernel
theorem dX6_setSeed_4 : decode cX6_setSeed 4 = .ok (.istore_n 2, 1) := by decide +kernel
theorem dX6_setSeed_5 : decode cX6_setSeed 5 = .ok (.aload_n 0, 1) := by decide +kernel
theorem dX6_setSeed_6 : decode cX6_setSeed 6 = .ok (.iload_n 1, 1) := by decide +kernel
theorem dX6_setSeed_7 : decode cX6_setSeed 7 = .ok (.putfield 50, 3) := by decide +kernel
theorem dX6_setSeed_10 : decode cX6_setSeed 10 = .ok (.iload_n 2, 1) := by decide +kernel
theorem dX6_setSeed_11 : decode cX6_setSeed 11 = .ok (.ireturn, 1) := by decide +kernel
theorem dX6_draws_0 : decode cX6_draws 0 = .ok (.aload_n 0, 1) := by decide +kernel
theorem dX6_draws_1 : decode cX6_draws 1 = .ok (.aload_n 0, 1) := by decide +kernel
theorem dX6_draws_2 : decode cX6_draws 2 = .ok (.getfield 50, 3) := by decide +kernel
theorem dX6_draws_5 : decode cX6_draws 5 = .ok (.ldc 81, 2) := by decide +kernel
theorem dX6_draws_7 : decode cX6_draws 7 = .ok (.imul, 1) := by decide +kernel
theorem dX6_draws_8 : decode cX6_draws 8 = .ok (.sipush 12345, 3) := by decide +kernel
theorem dX6_draws_11 : decode cX6_draws 11 = .ok (.iadd, 1) := by decide +kernel
theorem dX6_draws_12 : decode cX6_draws 12 = .ok (.putfield 50, 3) := by decide +kernel
theorem dX6_draws_15 : decode cX6_draws 15 = .ok (.aload_n 0, 1) := by decide +kernel
theorem dX6_draws_16 : decode cX6_draws 16 = .ok (.getfield 50, 3) := by decide +kernel
theorem dX6_draws_19 : decode cX6_draws 19 = .ok (.bipush 16, 2) := by decide +kernel
theorem dX6_draws_21 : decode cX6_draws 21 = .ok (.iushr, 1) := by decide +kernel
theorem dX6_draws_22 : decode cX6_draws 22 = .ok (.sipush 32767, 3) := by decide +kernel
theorem dX6_draws_25 : decode cX6_draws 25 = .ok (.iand, 1) := by decide +kernel
theorem dX6_draws_26 : decode cX6_draws 26 = .ok (.ireturn, 1) := by decide +kernel
set_option maxRecDepth 20000 in
theorem ggX6_process_X6_wordOf : GoodIn wsX6_process wsX6_wordOf := goodIn_r _ [10, 11, 12, 9, 13] (by decide +kernel) (by decide +kernel)
set_option maxRecDepth 20000 in
theorem gX6_process_X6_wordOf : GoodIn wsX6_process (va_wsS RX6 74 yX6_wordOf wsX6_wordOf) := goodIn_app (goodIn_of _ (by decide +kernel)) ggX6_process_X6_wordOf
set_option maxRecDepth 20000 in
theorem ggX6_process_X6_draws : GoodIn wsX6_process wsX6_draws := goodIn_r _ [17, 18, 19, 23, 24, 25, 26, 27, 28, 29, 30, 31, 32, 33, 34, 35, 36, 37, 38, 39, 40, 41, 42, 43, 44, 45, 46] (by decide +kernel) (by decide +kernel)
set_option maxRecDepth 20000 in
theorem gX6_process_X6_draws : GoodIn wsX6_process (wsV RX6 82 RX6 yX6_draws wsX6_draws) := goodIn_app (goodIn_of _ (by decide +kernel)) ggX6_process_X6_draws
set_option maxRecDepth 20000 in
theorem ggX6_process_X6_fragmentOf : GoodIn wsX6_process wsX6_fragmentOf := goodIn_r _ [22] (by decide +kernel) (by decide +kernel)
set_option maxRecDepth 20000 in
theorem gX6_process_X6_fragmentOf : GoodIn wsX6_process (va_wsS RX6 77 yX6_fragmentOf wsX6_fragmentOf) := goodIn_app (goodIn_of _ (by decide +kernel)) ggX6_process_X6_fragmentOf
theorem dX6_process_0 : decode cX6_process 0 = .ok (.aload_n 0, 1) := by decide +kernel
theorem dX6_process_1 : decode cX6_process 1 = .ok (.getfield 13, 3) := by decide +kernel
theorem dX6_process_4 : decode cX6_process 4 = .ok (.iload_n 1, 1) := by decide +kernel
theorem dX6_process_5 : decode cX6_process 5 = .ok (.iaload, 1) := by decide +kernel
theorem dX6_process_6 : decode cX6_process 6 = .ok (.invokestatic 74, 3) := by decide +kernel
theorem dX6_process_9 : decode cX6_process 9 = .ok (.istore_n 2, 1) := by decide +kernel
theorem dX6_process_10 : decode cX6_process 10 = .ok (.aload_n 0, 1) := by decide +kernel
theorem dX6_process_11 : decode cX6_process 11 = .ok (.invokevirtual 82, 3) := by decide +kernel
theorem dX6_process_14 : decode cX6_process 14 = .ok (.bipush 100, 2) := by decide +kernel
theorem dX6_process_16 : decode cX6_process 16 = .ok (.irem, 1) := by decide +kernel
theorem dX6_process_17 : decode cX6_process 17 = .ok (.aload_n 0, 1) := by decide +kernel
theorem dX6_process_18 : decode cX6_process 18 = .ok (.getfield 46, 3) := by decide +kernel
theorem dX6_process_21 : decode cX6_process 21 = .ok (.if_icmp .ge 38, 3) := by decide +kernel
theorem dX6_process_24 : decode cX6_process 24 = .ok (.aload_n 0, 1) := by decide +kernel
theorem dX6_process_25 : decode cX6_process 25 = .ok (.aload_n 0, 1) := by decide +kernel
theorem dX6_process_26 : decode cX6_process 26 = .ok (.invokevirtual 82, 3) := by decide +kernel
theorem dX6_process_29 : decode cX6_process 29 = .ok (.iconst 4, 1) := by decide +kernel
theorem dX6_process_30 : decode cX6_process 30 = .ok (.irem, 1) := by decide +kernel
theorem dX6_process_31 : decode cX6_process 31 = .ok (.putfield 86, 3) := by decide +kernel
theorem dX6_process_34 : decode cX6_process 34 = .ok (.aload_n 0, 1) := by decide +kernel
theorem dX6_process_35 : decode cX6_process 35 = .ok (.iconst 0, 1) := by decide +kernel
theorem dX6_process_36 : decode cX6_process 36 = .ok (.putfield 89, 3) := by decide +kernel
theorem dX6_process_39 : decode cX6_process 39 = .ok (.aload_n 0, 1) := by decide +kernel
theorem dX6_process_40 : decode cX6_process 40 = .ok (.iload_n 2, 1) := by decide +kernel
theorem dX6_process_41 : decode cX6_process 41 = .ok (.aload_n 0, 1) := by decide +kernel
theorem dX6_process_42 : decode cX6_process 42 = .ok (.getfield 86, 3) := by decide +kernel
theorem dX6_process_45 : decode cX6_process 45 = .ok (.invokestatic 77, 3) := by decide +kernel
theorem dX6_process_48 : decode cX6_process 48 = .ok (.putfield 92, 3) := by decide +kernel
theorem dX6_process_51 : decode cX6_process 51 = .ok (.aload_n 0, 1) := by decide +kernel
theorem dX6_process_52 : decode cX6_process 52 = .ok (.iconst 1, 1) := by decide +kernel
theorem dX6_process_53 : decode cX6_process 53 = .ok (.putfield 95, 3) := by decide +kernel
theorem dX6_process_56 : decode cX6_process 56 = .ok (.goto 69, 3) := by decide +kernel
theorem dX6_process_59 : decode cX6_process 59 = .ok (.aload_n 0, 1) := by decide +kernel
theorem dX6_process_60 : decode cX6_process 60 = .ok (.getfield 89, 3) := by decide +kernel
theorem dX6_process_63 : decode cX6_process 63 = .ok (.bipush (-7), 2) := by decide +kernel
theorem dX6_process_65 : decode cX6_process 65 = .ok (.if_icmp .eq 60, 3) := by decide +kernel
theorem dX6_process_68 : decode cX6_process 68 = .ok (.aload_n 0, 1) := by decide +kernel
theorem dX6_process_69 : decode cX6_process 69 = .ok (.aload_n 0, 1) := by decide +kernel
theorem dX6_process_70 : decode cX6_process 70 = .ok (.getfield 89, 3) := by decide +kernel
theorem dX6_process_73 : decode cX6_process 73 = .ok (.ifCond .ne 19, 3) := by decide +kernel
theorem dX6_process_76 : decode cX6_process 76 = .ok (.aload_n 0, 1) := by decide +kernel
theorem dX6_process_77 : decode cX6_process 77 = .ok (.getfield 92, 3) := by decide +kernel
theorem dX6_process_80 : decode cX6_process 80 = .ok (.iload_n 2, 1) := by decide +kernel
theorem dX6_process_81 : decode cX6_process 81 = .ok (.aload_n 0, 1) := by decide +kernel
theorem dX6_process_82 : decode cX6_process 82 = .ok (.getfield 86, 3) := by decide +kernel
theorem dX6_process_85 : decode cX6_process 85 = .ok (.invokestatic 77, 3) := by decide +kernel
theorem dX6_process_88 : decode cX6_process 88 = .ok (.ixor, 1) := by decide +kernel
theorem dX6_process_89 : decode cX6_process 89 = .ok (.goto 7, 3) := by decide +kernel
theorem dX6_process_92 : decode cX6_process 92 = .ok (.aload_n 0, 1) := by decide +kernel
theorem dX6_process_93 : decode cX6_process 93 = .ok (.getfield 92, 3) := by decide +kernel
theorem dX6_process_96 : decode cX6_process 96 = .ok (.putfield 92, 3) := by decide +kernel
theorem dX6_process_99 : decode cX6_process 99 = .ok (.aload_n 0, 1) := by decide +kernel
theorem dX6_process_100 : decode cX6_process 100 = .ok (.aload_n 0, 1) := by decide +kernel
theorem dX6_process_101 : decode cX6_process 101 = .ok (.getfield 89, 3) := by decide +kernel
theorem dX6_process_104 : decode cX6_process 104 = .ok (.bipush 31, 2) := by decide +kernel
theorem dX6_process_106 : decode cX6_process 106 = .ok (.if_icmp .ge 12, 3) := by decide +kernel
theorem dX6_process_109 : decode cX6_process 109 = .ok (.aload_n 0, 1) := by decide +kernel
theorem dX6_process_110 : decode cX6_process 110 = .ok (.getfield 89, 3) := by decide +kernel
theorem dX6_process_113 : decode cX6_process 113 = .ok (.iconst 1, 1) := by decide +kernel
theorem dX6_process_114 : decode cX6_process 114 = .ok (.iadd, 1) := by decide +kernel
theorem dX6_process_115 : decode cX6_process 115 = .ok (.goto 7, 3) := by decide +kernel
theorem dX6_process_118 : decode cX6_process 118 = .ok (.aload_n 0, 1) := by decide +kernel
theorem dX6_process_119 : decode cX6_process 119 = .ok (.getfield 89, 3) := by decide +kernel
theorem dX6_process_122 : decode cX6_process 122 = .ok (.putfield 89, 3) := by decide +kernel
theorem dX6_process_125 : decode cX6_process 125 = .ok (.return_, 1) := by decide +kernel
set_option maxRecDepth 20000 in
theorem ggX6_travels_X6_process : GoodIn wsX6_travels wsX6_process := goodIn_r _ [6, 7, 8, 9, 10, 11, 12, 13, 14, 5, 15, 16, 17, 18, 19, 20, 21, 22, 23, 24, 25, 26, 27, 28, 29, 30, 31, 32, 33, 34, 35, 36, 37, 38, 39, 40, 41, 42, 43, 44, 45, 46, 47, 48, 49, 50, 51] (by decide +kernel) (by decide +kernel)
set_option maxRecDepth 20000 in
theorem gX6_travels_X6_process : GoodIn wsX6_travels (wsV RX6 99 RX6 yX6_process wsX6_process) := goodIn_app (goodIn_of _ (by decide +kernel)) ggX6_travels_X6_process
theorem dX6_travels_0 : decode cX6_travels 0 = .ok (.iload_n 1, 1) := by decide +kernel
theorem dX6_travels_1 : decode cX6_travels 1 = .ok (.istore_n 2, 1) := by decide +kernel
theorem dX6_travels_2 : decode cX6_travels 2 = .ok (.iload_n 2, 1) := by decide +kernel
theorem dX6_travels_3 : decode cX6_travels 3 = .ok (.bipush (-7), 2) := by decide +kernel
theorem dX6_travels_5 : decode cX6_travels 5 = .ok (.if_icmp .eq 18, 3) := by decide +kernel
theorem dX6_travels_8 : decode cX6_travels 8 = .ok (.aload_n 0, 1) := by decide +kernel
theorem dX6_travels_9 : decode cX6_travels 9 = .ok (.iload_n 2, 1) := by decide +kernel
theorem dX6_travels_10 : decode cX6_travels 10 = .ok (.invokevirtual 99, 3) := by decide +kernel
theorem dX6_travels_13 : decode cX6_travels 13 = .ok (.aload_n 0, 1) := by decide +kernel
theorem dX6_travels_14 : decode cX6_travels 14 = .ok (.getfield 7, 3) := by decide +kernel
theorem dX6_travels_17 : decode cX6_travels 17 = .ok (.iload_n 2, 1) := by decide +kernel
theorem dX6_travels_18 : decode cX6_travels 18 = .ok (.iaload, 1) := by decide +kernel
theorem dX6_travels_19 : decode cX6_travels 19 = .ok (.istore_n 2, 1) := by decide +kernel
theorem dX6_travels_20 : decode cX6_travels 20 = .ok (.goto (-18), 3) := by decide +kernel
theorem dX6_travels_23 : decode cX6_travels 23 = .ok (.return_, 1) := by decide +kernel
theorem dX6_placeOf_0 : decode cX6_placeOf 0 = .ok (.sipush 128, 3) := by decide +kernel
theorem dX6_placeOf_3 : decode cX6_placeOf 3 = .ok (.iload_n 0, 1) := by decide +kernel
theorem dX6_placeOf_4 : decode cX6_placeOf 4 = .ok (.imul, 1) := by decide +kernel
theorem dX6_placeOf_5 : decode cX6_placeOf 5 = .ok (.bipush 32, 2) := by decide +kernel
theorem dX6_placeOf_7 : decode cX6_placeOf 7 = .ok (.iload_n 1, 1) := by decide +kernel
theorem dX6_placeOf_8 : decode cX6_placeOf 8 = .ok (.imul, 1) := by decide +kernel
theorem dX6_placeOf_9 : decode cX6_placeOf 9 = .ok (.iadd, 1) := by decide +kernel
theorem dX6_placeOf_10 : decode cX6_placeOf 10 = .ok (.iload_n 2, 1) := by decide +kernel
theorem dX6_placeOf_11 : decode cX6_placeOf 11 = .ok (.iadd, 1) := by decide +kernel
theorem dX6_placeOf_12 : decode cX6_placeOf 12 = .ok (.ireturn, 1) := by decide +kernel
set_option maxRecDepth 20000 in
theorem ggX6_records_X6_placeOf : GoodIn wsX6_records wsX6_placeOf := goodIn_r _ [10] (by decide +kernel) (by decide +kernel)
set_option maxRecDepth 20000 in
theorem gX6_records_X6_placeOf : GoodIn wsX6_records (va_wsS RX6 109 yX6_placeOf wsX6_placeOf) := goodIn_app (goodIn_of _ (by decide +kernel)) ggX6_records_X6_placeOf
theorem dX6_records_0 : decode cX6_records 0 = .ok (.aload_n 0, 1) := by decide +kernel
theorem dX6_records_1 : decode cX6_records 1 = .ok (.dup, 1) := by decide +kernel
theorem dX6_records_2 : decode cX6_records 2 = .ok (.getfield 103, 3) := by decide +kernel
theorem dX6_records_5 : decode cX6_records 5 = .ok (.iconst 1, 1) := by decide +kernel
theorem dX6_records_6 : decode cX6_records 6 = .ok (.iadd, 1) := by decide +kernel
theorem dX6_records_7 : decode cX6_records 7 = .ok (.putfield 103, 3) := by decide +kernel
theorem dX6_records_10 : decode cX6_records 10 = .ok (.aload_n 0, 1) := by decide +kernel
theorem dX6_records_11 : decode cX6_records 11 = .ok (.getfield 89, 3) := by decide +kernel
theorem dX6_records_14 : decode cX6_records 14 = .ok (.bipush (-7), 2) := by decide +kernel
theorem dX6_records_16 : decode cX6_records 16 = .ok (.if_icmp .ne 16, 3) := by decide +kernel
theorem dX6_records_19 : decode cX6_records 19 = .ok (.aload_n 0, 1) := by decide +kernel
theorem dX6_records_20 : decode cX6_records 20 = .ok (.dup, 1) := by decide +kernel
theorem dX6_records_21 : decode cX6_records 21 = .ok (.getfield 106, 3) := by decide +kernel
theorem dX6_records_24 : decode cX6_records 24 = .ok (.iconst 1, 1) := by decide +kernel
theorem dX6_records_25 : decode cX6_records 25 = .ok (.iadd, 1) := by decide +kernel
theorem dX6_records_26 : decode cX6_records 26 = .ok (.putfield 106, 3) := by decide +kernel
theorem dX6_records_29 : decode cX6_records 29 = .ok (.goto 27, 3) := by decide +kernel
theorem dX6_records_32 : decode cX6_records 32 = .ok (.aload_n 0, 1) := by decide +kernel
theorem dX6_records_33 : decode cX6_records 33 = .ok (.getfield 19, 3) := by decide +kernel
theorem dX6_records_36 : decode cX6_records 36 = .ok (.aload_n 0, 1) := by decide +kernel
theorem dX6_records_37 : decode cX6_records 37 = .ok (.getfield 89, 3) := by decide +kernel
theorem dX6_records_40 : decode cX6_records 40 = .ok (.aload_n 0, 1) := by decide +kernel
theorem dX6_records_41 : decode cX6_records 41 = .ok (.getfield 86, 3) := by decide +kernel
theorem dX6_records_44 : decode cX6_records 44 = .ok (.aload_n 0, 1) := by decide +kernel
theorem dX6_records_45 : decode cX6_records 45 = .ok (.getfield 92, 3) := by decide +kernel
theorem dX6_records_48 : decode cX6_records 48 = .ok (.invokestatic 109, 3) := by decide +kernel
theorem dX6_records_51 : decode cX6_records 51 = .ok (.dup2, 1) := by decide +kernel
theorem dX6_records_52 : decode cX6_records 52 = .ok (.iaload, 1) := by decide +kernel
theorem dX6_records_53 : decode cX6_records 53 = .ok (.iconst 1, 1) := by decide +kernel
theorem dX6_records_54 : decode cX6_records 54 = .ok (.iadd, 1) := by decide +kernel
theorem dX6_records_55 : decode cX6_records 55 = .ok (.iastore, 1) := by decide +kernel
theorem dX6_records_56 : decode cX6_records 56 = .ok (.return_, 1) := by decide +kernel
theorem dX6_clearMarks_0 : decode cX6_clearMarks 0 = .ok (.aload_n 0, 1) := by decide +kernel
theorem dX6_clearMarks_1 : decode cX6_clearMarks 1 = .ok (.getfield 103, 3) := by decide +kernel
theorem dX6_clearMarks_4 : decode cX6_clearMarks 4 = .ok (.istore_n 1, 1) := by decide +kernel
theorem dX6_clearMarks_5 : decode cX6_clearMarks 5 = .ok (.iconst 0, 1) := by decide +kernel
theorem dX6_clearMarks_6 : decode cX6_clearMarks 6 = .ok (.istore_n 2, 1) := by decide +kernel
theorem dX6_clearMarks_7 : decode cX6_clearMarks 7 = .ok (.iload_n 2, 1) := by decide +kernel
theorem dX6_clearMarks_8 : decode cX6_clearMarks 8 = .ok (.sipush 4096, 3) := by decide +kernel
theorem dX6_clearMarks_11 : decode cX6_clearMarks 11 = .ok (.if_icmp .ge 16, 3) := by decide +kernel
theorem dX6_clearMarks_14 : decode cX6_clearMarks 14 = .ok (.aload_n 0, 1) := by decide +kernel
theorem dX6_clearMarks_15 : decode cX6_clearMarks 15 = .ok (.getfield 19, 3) := by decide +kernel
theorem dX6_clearMarks_18 : decode cX6_clearMarks 18 = .ok (.iload_n 2, 1) := by decide +kernel
theorem dX6_clearMarks_19 : decode cX6_clearMarks 19 = .ok (.iconst 0, 1) := by decide +kernel
theorem dX6_clearMarks_20 : decode cX6_clearMarks 20 = .ok (.iastore, 1) := by decide +kernel
theorem dX6_clearMarks_21 : decode cX6_clearMarks 21 = .ok (.iinc 2 1, 3) := by decide +kernel
theorem dX6_clearMarks_24 : decode cX6_clearMarks 24 = .ok (.goto (-17), 3) := by decide +kernel
theorem dX6_clearMarks_27 : decode cX6_clearMarks 27 = .ok (.aload_n 0, 1) := by decide +kernel
theorem dX6_clearMarks_28 : decode cX6_clearMarks 28 = .ok (.iconst 0, 1) := by decide +kernel
theorem dX6_clearMarks_29 : decode cX6_clearMarks 29 = .ok (.putfield 103, 3) := by decide +kernel
theorem dX6_clearMarks_32 : decode cX6_clearMarks 32 = .ok (.aload_n 0, 1) := by decide +kernel
theorem dX6_clearMarks_33 : decode cX6_clearMarks 33 = .ok (.iconst 0, 1) := by decide +kernel
theorem dX6_clearMarks_34 : decode cX6_clearMarks 34 = .ok (.putfield 106, 3) := by decide +kernel
theorem dX6_clearMarks_37 : decode cX6_clearMarks 37 = .ok (.iload_n 1, 1) := by decide +kernel
theorem dX6_clearMarks_38 : decode cX6_clearMarks 38 = .ok (.ireturn, 1) := by decide +kernel
set_option maxRecDepth 20000 in
theorem ggX6_sendPackets_X6_isRouter : GoodIn wsX6_sendPackets wsX6_isRouter := goodIn_r _ [6, 7, 8, 9, 5, 10, 50, 51, 52, 53, 54, 55, 56, 57, 58, 59, 60, 61, 62, 63, 64, 65, 66, 67, 68, 69, 70, 71, 72, 73] (by decide +kernel) (by decide +kernel)
set_option maxRecDepth 20000 in
theorem gX6_sendPackets_X6_isRouter : GoodIn wsX6_sendPackets (wsV RX6 60 RX6 yX6_isRouter wsX6_isRouter) := goodIn_app (goodIn_of _ (by decide +kernel)) ggX6_sendPackets_X6_isRouter
set_option maxRecDepth 20000 in
theorem ggX6_sendPackets_X6_within : GoodIn wsX6_sendPackets wsX6_within := goodIn_r _ [10] (by decide +kernel) (by decide +kernel)
set_option maxRecDepth 20000 in
theorem gX6_sendPackets_X6_within : GoodIn wsX6_sendPackets (va_wsS RX6 56 yX6_within wsX6_within) := goodIn_app (goodIn_of _ (by decide +kernel)) ggX6_sendPackets_X6_within
set_option maxRecDepth 20000 in
theorem ggX6_sendPackets_X6_travels : GoodIn wsX6_sendPackets wsX6_travels := goodIn_r _ [14, 15, 16, 17, 18, 5, 19, 20, 21, 22, 1, 23, 24, 25, 26, 27, 28, 29, 30, 31, 32, 33, 34, 35, 36, 37, 38, 39, 50, 51, 52, 53, 54, 55, 56, 57, 58, 59, 60, 61, 62, 63, 64, 65, 66, 67, 68, 69, 70, 71, 72, 73] (by decide +kernel) (by decide +kernel)
set_option maxRecDepth 20000 in
theorem gX6_sendPackets_X6_travels : GoodIn wsX6_sendPackets (wsV RX6 113 RX6 yX6_travels wsX6_travels) := goodIn_app (goodIn_of _ (by decide +kernel)) ggX6_sendPackets_X6_travels
set_option maxRecDepth 20000 in
theorem ggX6_sendPackets_X6_records : GoodIn wsX6_sendPackets wsX6_records := goodIn_r _ [43, 44, 1, 45, 46, 22, 23, 47, 48, 5, 49, 50, 51, 52, 53, 54, 55, 56, 57, 58, 59, 60, 61, 62, 63, 64, 65, 66, 67, 68, 69, 70, 71, 72, 73] (by decide +kernel) (by decide +kernel)
set_option maxRecDepth 20000 in
theorem gX6_sendPackets_X6_records : GoodIn wsX6_sendPackets (wsV RX6 116 RX6 yX6_records wsX6_records) := goodIn_app (goodIn_of _ (by decide +kernel)) ggX6_sendPackets_X6_records
theorem dX6_sendPackets_0 : decode cX6_sendPackets 0 = .ok (.aload_n 0, 1) := by decide +kernel
theorem dX6_sendPackets_1 : decode cX6_sendPackets 1 = .ok (.iload_n 1, 1) := by decide +kernel
theorem dX6_sendPackets_2 : decode cX6_sendPackets 2 = .ok (.invokevirtual 60, 3) := by decide +kernel
theorem dX6_sendPackets_5 : decode cX6_sendPackets 5 = .ok (.ifCond .ne 5, 3) := by decide +kernel
theorem dX6_sendPackets_8 : decode cX6_sendPackets 8 = .ok (.iconst (-1), 1) := by decide +kernel
theorem dX6_sendPackets_9 : decode cX6_sendPackets 9 = .ok (.ireturn, 1) := by decide +kernel
theorem dX6_sendPackets_10 : decode cX6_sendPackets 10 = .ok (.iload_n 2, 1) := by decide +kernel
theorem dX6_sendPackets_11 : decode cX6_sendPackets 11 = .ok (.iconst 1, 1) := by decide +kernel
theorem dX6_sendPackets_12 : decode cX6_sendPackets 12 = .ok (.sipush 500, 3) := by decide +kernel
theorem dX6_sendPackets_15 : decode cX6_sendPackets 15 = .ok (.invokestatic 56, 3) := by decide +kernel
theorem dX6_sendPackets_18 : decode cX6_sendPackets 18 = .ok (.ifCond .ne 6, 3) := by decide +kernel
theorem dX6_sendPackets_21 : decode cX6_sendPackets 21 = .ok (.bipush (-2), 2) := by decide +kernel
theorem dX6_sendPackets_23 : decode cX6_sendPackets 23 = .ok (.ireturn, 1) := by decide +kernel
theorem dX6_sendPackets_24 : decode cX6_sendPackets 24 = .ok (.iconst 0, 1) := by decide +kernel
theorem dX6_sendPackets_25 : decode cX6_sendPackets 25 = .ok (.istore_n 3, 1) := by decide +kernel
theorem dX6_sendPackets_26 : decode cX6_sendPackets 26 = .ok (.iconst 0, 1) := by decide +kernel
theorem dX6_sendPackets_27 : decode cX6_sendPackets 27 = .ok (.istore 4, 2) := by decide +kernel
theorem dX6_sendPackets_29 : decode cX6_sendPackets 29 = .ok (.iload 4, 2) := by decide +kernel
theorem dX6_sendPackets_31 : decode cX6_sendPackets 31 = .ok (.iload_n 2, 1) := by decide +kernel
theorem dX6_sendPackets_32 : decode cX6_sendPackets 32 = .ok (.if_icmp .ge 41, 3) := by decide +kernel
theorem dX6_sendPackets_35 : decode cX6_sendPackets 35 = .ok (.aload_n 0, 1) := by decide +kernel
theorem dX6_sendPackets_36 : decode cX6_sendPackets 36 = .ok (.bipush (-7), 2) := by decide +kernel
theorem dX6_sendPackets_38 : decode cX6_sendPackets 38 = .ok (.putfield 89, 3) := by decide +kernel
theorem dX6_sendPackets_41 : decode cX6_sendPackets 41 = .ok (.aload_n 0, 1) := by decide +kernel
theorem dX6_sendPackets_42 : decode cX6_sendPackets 42 = .ok (.iload_n 1, 1) := by decide +kernel
theorem dX6_sendPackets_43 : decode cX6_sendPackets 43 = .ok (.invokevirtual 113, 3) := by decide +kernel
theorem dX6_sendPackets_46 : decode cX6_sendPackets 46 = .ok (.aload_n 0, 1) := by decide +kernel
theorem dX6_sendPackets_47 : decode cX6_sendPackets 47 = .ok (.invokevirtual 116, 3) := by decide +kernel
theorem dX6_sendPackets_50 : decode cX6_sendPackets 50 = .ok (.iload_n 3, 1) := by decide +kernel
theorem dX6_sendPackets_51 : decode cX6_sendPackets 51 = .ok (.aload_n 0, 1) := by decide +kernel
theorem dX6_sendPackets_52 : decode cX6_sendPackets 52 = .ok (.getfield 89, 3) := by decide +kernel
theorem dX6_sendPackets_55 : decode cX6_sendPackets 55 = .ok (.bipush (-7), 2) := by decide +kernel
theorem dX6_sendPackets_57 : decode cX6_sendPackets 57 = .ok (.if_icmp .ne 7, 3) := by decide +kernel
theorem dX6_sendPackets_60 : decode cX6_sendPackets 60 = .ok (.iconst 0, 1) := by decide +kernel
theorem dX6_sendPackets_61 : decode cX6_sendPackets 61 = .ok (.goto 4, 3) := by decide +kernel
theorem dX6_sendPackets_64 : decode cX6_sendPackets 64 = .ok (.iconst 1, 1) := by decide +kernel
theorem dX6_sendPackets_65 : decode cX6_sendPackets 65 = .ok (.iadd, 1) := by decide +kernel
theorem dX6_sendPackets_66 : decode cX6_sendPackets 66 = .ok (.istore_n 3, 1) := by decide +kernel
theorem dX6_sendPackets_67 : decode cX6_sendPackets 67 = .ok (.iinc 4 1, 3) := by decide +kernel
theorem dX6_sendPackets_70 : decode cX6_sendPackets 70 = .ok (.goto (-41), 3) := by decide +kernel
theorem dX6_sendPackets_73 : decode cX6_sendPackets 73 = .ok (.iload_n 3, 1) := by decide +kernel
theorem dX6_sendPackets_74 : decode cX6_sendPackets 74 = .ok (.ireturn, 1) := by decide +kernel
set_option maxRecDepth 20000 in
theorem ggX6_isMark_X6_within : GoodIn wsX6_isMark wsX6_within := goodIn_r _ [4] (by decide +kernel) (by decide +kernel)
set_option maxRecDepth 20000 in
theorem gX6_isMark_X6_within : GoodIn wsX6_isMark (va_wsS RX6 56 yX6_within wsX6_within) := goodIn_app (goodIn_of _ (by decide +kernel)) ggX6_isMark_X6_within
theorem dX6_isMark_0 : decode cX6_isMark 0 = .ok (.iload_n 0, 1) := by decide +kernel
theorem dX6_isMark_1 : decode cX6_isMark 1 = .ok (.iconst 0, 1) := by decide +kernel
theorem dX6_isMark_2 : decode cX6_isMark 2 = .ok (.bipush 31, 2) := by decide +kernel
theorem dX6_isMark_4 : decode cX6_isMark 4 = .ok (.invokestatic 56, 3) := by decide +kernel
theorem dX6_isMark_7 : decode cX6_isMark 7 = .ok (.ifCond .eq 26, 3) := by decide +kernel
theorem dX6_isMark_10 : decode cX6_isMark 10 = .ok (.iload_n 1, 1) := by decide +kernel
theorem dX6_isMark_11 : decode cX6_isMark 11 = .ok (.iconst 0, 1) := by decide +kernel
theorem dX6_isMark_12 : decode cX6_isMark 12 = .ok (.iconst 3, 1) := by decide +kernel
theorem dX6_isMark_13 : decode cX6_isMark 13 = .ok (.invokestatic 56, 3) := by decide +kernel
theorem dX6_isMark_16 : decode cX6_isMark 16 = .ok (.ifCond .eq 17, 3) := by decide +kernel
theorem dX6_isMark_19 : decode cX6_isMark 19 = .ok (.iload_n 2, 1) := by decide +kernel
theorem dX6_isMark_20 : decode cX6_isMark 20 = .ok (.iconst 0, 1) := by decide +kernel
theorem dX6_isMark_21 : decode cX6_isMark 21 = .ok (.bipush 31, 2) := by decide +kernel
theorem dX6_isMark_23 : decode cX6_isMark 23 = .ok (.invokestatic 56, 3) := by decide +kernel
theorem dX6_isMark_26 : decode cX6_isMark 26 = .ok (.ifCond .eq 7, 3) := by decide +kernel
theorem dX6_isMark_29 : decode cX6_isMark 29 = .ok (.iconst 1, 1) := by decide +kernel
theorem dX6_isMark_30 : decode cX6_isMark 30 = .ok (.goto 4, 3) := by decide +kernel
theorem dX6_isMark_33 : decode cX6_isMark 33 = .ok (.iconst 0, 1) := by decide +kernel
theorem dX6_isMark_34 : decode cX6_isMark 34 = .ok (.ireturn, 1) := by decide +kernel
set_option maxRecDepth 20000 in
theorem ggX6_sendForged_X6_isRouter : GoodIn wsX6_sendForged wsX6_isRouter := goodIn_r _ [9, 10, 11, 12, 8, 13, 53, 54, 55, 56, 57, 58, 59, 60, 61, 62, 63, 64, 65, 66, 67, 68, 69, 70, 71, 72, 73, 74, 75, 76] (by decide +kernel) (by decide +kernel)
set_option maxRecDepth 20000 in
theorem gX6_sendForged_X6_isRouter : GoodIn wsX6_sendForged (wsV RX6 60 RX6 yX6_isRouter wsX6_isRouter) := goodIn_app (goodIn_of _ (by decide +kernel)) ggX6_sendForged_X6_isRouter
set_option maxRecDepth 20000 in
theorem ggX6_sendForged_X6_within : GoodIn wsX6_sendForged wsX6_within := goodIn_r _ [13] (by decide +kernel) (by decide +kernel)
set_option maxRecDepth 20000 in
theorem gX6_sendForged_X6_within : GoodIn wsX6_sendForged (va_wsS RX6 56 yX6_within wsX6_within) := goodIn_app (goodIn_of _ (by decide +kernel)) ggX6_sendForged_X6_within
set_option maxRecDepth 20000 in
theorem ggX6_sendForged_X6_isMark : GoodIn wsX6_sendForged wsX6_isMark := goodIn_r _ [16, 11, 12, 8, 13] (by decide +kernel) (by decide +kernel)
set_option maxRecDepth 20000 in
theorem gX6_sendForged_X6_isMark : GoodIn wsX6_sendForged (va_wsS RX6 119 yX6_isMark wsX6_isMark) := goodIn_app (goodIn_of _ (by decide +kernel)) ggX6_sendForged_X6_isMark
set_option maxRecDepth 20000 in
theorem ggX6_sendForged_X6_travels : GoodIn wsX6_sendForged wsX6_travels := goodIn_r _ [20, 21, 22, 23, 24, 8, 25, 26, 27, 2, 1, 3, 4, 28, 29, 30, 31, 32, 33, 34, 35, 36, 37, 38, 39, 40, 41, 42, 53, 54, 55, 56, 57, 58, 59, 60, 61, 62, 63, 64, 65, 66, 67, 68, 69, 70, 71, 72, 73, 74, 75, 76] (by decide +kernel) (by decide +kernel)
set_option maxRecDepth 20000 in
theorem gX6_sendForged_X6_travels : GoodIn wsX6_sendForged (wsV RX6 113 RX6 yX6_travels wsX6_travels) := goodIn_app (goodIn_of _ (by decide +kernel)) ggX6_sendForged_X6_travels
set_option maxRecDepth 20000 in
theorem ggX6_sendForged_X6_records : GoodIn wsX6_sendForged wsX6_records := goodIn_r _ [46, 47, 1, 48, 49, 2, 3, 50, 51, 8, 52, 53, 54, 55, 56, 57, 58, 59, 60, 61, 62, 63, 64, 65, 66, 67, 68, 69, 70, 71, 72, 73, 74, 75, 76] (by decide +kernel) (by decide +kernel)
set_option maxRecDepth 20000 in
theorem gX6_sendForged_X6_records : GoodIn wsX6_sendForged (wsV RX6 116 RX6 yX6_records wsX6_records) := goodIn_app (goodIn_of _ (by decide +kernel)) ggX6_sendForged_X6_records
theorem dX6_sendForged_0 : decode cX6_sendForged 0 = .ok (.aload_n 0, 1) := by decide +kernel
theorem dX6_sendForged_1 : decode cX6_sendForged 1 = .ok (.iload_n 1, 1) := by decide +kernel
theorem dX6_sendForged_2 : decode cX6_sendForged 2 = .ok (.invokevirtual 60, 3) := by decide +kernel
theorem dX6_sendForged_5 : decode cX6_sendForged 5 = .ok (.ifCond .ne 5, 3) := by decide +kernel
theorem dX6_sendForged_8 : decode cX6_sendForged 8 = .ok (.iconst (-1), 1) := by decide +kernel
theorem dX6_sendForged_9 : decode cX6_sendForged 9 = .ok (.ireturn, 1) := by decide +kernel
theorem dX6_sendForged_10 : decode cX6_sendForged 10 = .ok (.iload_n 2, 1) := by decide +kernel
theorem dX6_sendForged_11 : decode cX6_sendForged 11 = .ok (.iconst 1, 1) := by decide +kernel
theorem dX6_sendForged_12 : decode cX6_sendForged 12 = .ok (.sipush 500, 3) := by decide +kernel
theorem dX6_sendForged_15 : decode cX6_sendForged 15 = .ok (.invokestatic 56, 3) := by decide +kernel
theorem dX6_sendForged_18 : decode cX6_sendForged 18 = .ok (.ifCond .eq 14, 3) := by decide +kernel
theorem dX6_sendForged_21 : decode cX6_sendForged 21 = .ok (.iload_n 3, 1) := by decide +kernel
theorem dX6_sendForged_22 : decode cX6_sendForged 22 = .ok (.iload 4, 2) := by decide +kernel
theorem dX6_sendForged_24 : decode cX6_sendForged 24 = .ok (.iload 5, 2) := by decide +kernel
theorem dX6_sendForged_26 : decode cX6_sendForged 26 = .ok (.invokestatic 119, 3) := by decide +kernel
theorem dX6_sendForged_29 : decode cX6_sendForged 29 = .ok (.ifCond .ne 6, 3) := by decide +kernel
theorem dX6_sendForged_32 : decode cX6_sendForged 32 = .ok (.bipush (-2), 2) := by decide +kernel
theorem dX6_sendForged_34 : decode cX6_sendForged 34 = .ok (.ireturn, 1) := by decide +kernel
theorem dX6_sendForged_35 : decode cX6_sendForged 35 = .ok (.iconst 0, 1) := by decide +kernel
theorem dX6_sendForged_36 : decode cX6_sendForged 36 = .ok (.istore 6, 2) := by decide +kernel
theorem dX6_sendForged_38 : decode cX6_sendForged 38 = .ok (.iconst 0, 1) := by decide +kernel
theorem dX6_sendForged_39 : decode cX6_sendForged 39 = .ok (.istore 7, 2) := by decide +kernel
theorem dX6_sendForged_41 : decode cX6_sendForged 41 = .ok (.iload 7, 2) := by decide +kernel
theorem dX6_sendForged_43 : decode cX6_sendForged 43 = .ok (.iload_n 2, 1) := by decide +kernel
theorem dX6_sendForged_44 : decode cX6_sendForged 44 = .ok (.if_icmp .ge 57, 3) := by decide +kernel
theorem dX6_sendForged_47 : decode cX6_sendForged 47 = .ok (.aload_n 0, 1) := by decide +kernel
theorem dX6_sendForged_48 : decode cX6_sendForged 48 = .ok (.iload_n 3, 1) := by decide +kernel
theorem dX6_sendForged_49 : decode cX6_sendForged 49 = .ok (.putfield 89, 3) := by decide +kernel
theorem dX6_sendForged_52 : decode cX6_sendForged 52 = .ok (.aload_n 0, 1) := by decide +kernel
theorem dX6_sendForged_53 : decode cX6_sendForged 53 = .ok (.iload 4, 2) := by decide +kernel
theorem dX6_sendForged_55 : decode cX6_sendForged 55 = .ok (.putfield 86, 3) := by decide +kernel
theorem dX6_sendForged_58 : decode cX6_sendForged 58 = .ok (.aload_n 0, 1) := by decide +kernel
theorem dX6_sendForged_59 : decode cX6_sendForged 59 = .ok (.iload 5, 2) := by decide +kernel
theorem dX6_sendForged_61 : decode cX6_sendForged 61 = .ok (.putfield 92, 3) := by decide +kernel
theorem dX6_sendForged_64 : decode cX6_sendForged 64 = .ok (.aload_n 0, 1) := by decide +kernel
theorem dX6_sendForged_65 : decode cX6_sendForged 65 = .ok (.iconst 0, 1) := by decide +kernel
theorem dX6_sendForged_66 : decode cX6_sendForged 66 = .ok (.putfield 95, 3) := by decide +kernel
theorem dX6_sendForged_69 : decode cX6_sendForged 69 = .ok (.aload_n 0, 1) := by decide +kernel
theorem dX6_sendForged_70 : decode cX6_sendForged 70 = .ok (.iload_n 1, 1) := by decide +kernel
theorem dX6_sendForged_71 : decode cX6_sendForged 71 = .ok (.invokevirtual 113, 3) := by decide +kernel
theorem dX6_sendForged_74 : decode cX6_sendForged 74 = .ok (.aload_n 0, 1) := by decide +kernel
theorem dX6_sendForged_75 : decode cX6_sendForged 75 = .ok (.invokevirtual 116, 3) := by decide +kernel
theorem dX6_sendForged_78 : decode cX6_sendForged 78 = .ok (.iload 6, 2) := by decide +kernel
theorem dX6_sendForged_80 : decode cX6_sendForged 80 = .ok (.aload_n 0, 1) := by decide +kernel
theorem dX6_sendForged_81 : decode cX6_sendForged 81 = .ok (.getfield 95, 3) := by decide +kernel
theorem dX6_sendForged_84 : decode cX6_sendForged 84 = .ok (.ifCond .eq 7, 3) := by decide +kernel
theorem dX6_sendForged_87 : decode cX6_sendForged 87 = .ok (.iconst 1, 1) := by decide +kernel
theorem dX6_sendForged_88 : decode cX6_sendForged 88 = .ok (.goto 4, 3) := by decide +kernel
theorem dX6_sendForged_91 : decode cX6_sendForged 91 = .ok (.iconst 0, 1) := by decide +kernel
theorem dX6_sendForged_92 : decode cX6_sendForged 92 = .ok (.iadd, 1) := by decide +kernel
theorem dX6_sendForged_93 : decode cX6_sendForged 93 = .ok (.istore 6, 2) := by decide +kernel
theorem dX6_sendForged_95 : decode cX6_sendForged 95 = .ok (.iinc 7 1, 3) := by decide +kernel
theorem dX6_sendForged_98 : decode cX6_sendForged 98 = .ok (.goto (-57), 3) := by decide +kernel
theorem dX6_sendForged_101 : decode cX6_sendForged 101 = .ok (.iload 6, 2) := by decide +kernel
theorem dX6_sendForged_103 : decode cX6_sendForged 103 = .ok (.ireturn, 1) := by decide +kernel
theorem dX6_packetsAt_0 : decode cX6_packetsAt 0 = .ok (.iconst 0, 1) := by decide +kernel
theorem dX6_packetsAt_1 : decode cX6_packetsAt 1 = .ok (.istore_n 2, 1) := by decide +kernel
theorem dX6_packetsAt_2 : decode cX6_packetsAt 2 = .ok (.sipush 128, 3) := by decide +kernel
theorem dX6_packetsAt_5 : decode cX6_packetsAt 5 = .ok (.iload_n 1, 1) := by decide +kernel
theorem dX6_packetsAt_6 : decode cX6_packetsAt 6 = .ok (.imul, 1) := by decide +kernel
theorem dX6_packetsAt_7 : decode cX6_packetsAt 7 = .ok (.istore_n 3, 1) := by decide +kernel
theorem dX6_packetsAt_8 : decode cX6_packetsAt 8 = .ok (.iload_n 3, 1) := by decide +kernel
theorem dX6_packetsAt_9 : decode cX6_packetsAt 9 = .ok (.sipush 128, 3) := by decide +kernel
theorem dX6_packetsAt_12 : decode cX6_packetsAt 12 = .ok (.iload_n 1, 1) := by decide +kernel
theorem dX6_packetsAt_13 : decode cX6_packetsAt 13 = .ok (.imul, 1) := by decide +kernel
theorem dX6_packetsAt_14 : decode cX6_packetsAt 14 = .ok (.sipush 128, 3) := by decide +kernel
theorem dX6_packetsAt_17 : decode cX6_packetsAt 17 = .ok (.iadd, 1) := by decide +kernel
theorem dX6_packetsAt_18 : decode cX6_packetsAt 18 = .ok (.if_icmp .ge 18, 3) := by decide +kernel
theorem dX6_packetsAt_21 : decode cX6_packetsAt 21 = .ok (.iload_n 2, 1) := by decide +kernel
theorem dX6_packetsAt_22 : decode cX6_packetsAt 22 = .ok (.aload_n 0, 1) := by decide +kernel
theorem dX6_packetsAt_23 : decode cX6_packetsAt 23 = .ok (.getfield 19, 3) := by decide +kernel
theorem dX6_packetsAt_26 : decode cX6_packetsAt 26 = .ok (.iload_n 3, 1) := by decide +kernel
theorem dX6_packetsAt_27 : decode cX6_packetsAt 27 = .ok (.iaload, 1) := by decide +kernel
theorem dX6_packetsAt_28 : decode cX6_packetsAt 28 = .ok (.iadd, 1) := by decide +kernel
theorem dX6_packetsAt_29 : decode cX6_packetsAt 29 = .ok (.istore_n 2, 1) := by decide +kernel
theorem dX6_packetsAt_30 : decode cX6_packetsAt 30 = .ok (.iinc 3 1, 3) := by decide +kernel
theorem dX6_packetsAt_33 : decode cX6_packetsAt 33 = .ok (.goto (-25), 3) := by decide +kernel
theorem dX6_packetsAt_36 : decode cX6_packetsAt 36 = .ok (.iload_n 2, 1) := by decide +kernel
theorem dX6_packetsAt_37 : decode cX6_packetsAt 37 = .ok (.ireturn, 1) := by decide +kernel
set_option maxRecDepth 20000 in
theorem ggX6_packetsAtDistance_X6_within : GoodIn wsX6_packetsAtDistance wsX6_within := goodIn_r _ [4] (by decide +kernel) (by decide +kernel)
set_option maxRecDepth 20000 in
theorem gX6_packetsAtDistance_X6_within : GoodIn wsX6_packetsAtDistance (va_wsS RX6 56 yX6_within wsX6_within) := goodIn_app (goodIn_of _ (by decide +kernel)) ggX6_packetsAtDistance_X6_within
set_option maxRecDepth 20000 in
theorem ggX6_packetsAtDistance_X6_packetsAt : GoodIn wsX6_packetsAtDistance wsX6_packetsAt := goodIn_r _ [8, 9, 10, 11, 12, 13, 14, 15, 16, 17, 18, 19, 20, 21, 22, 23, 24, 25, 26, 27, 28, 29, 30, 31, 32, 33] (by decide +kernel) (by decide +kernel)
set_option maxRecDepth 20000 in
theorem gX6_packetsAtDistance_X6_packetsAt : GoodIn wsX6_packetsAtDistance (wsV RX6 122 RX6 yX6_packetsAt wsX6_packetsAt) := goodIn_app (goodIn_of _ (by decide +kernel)) ggX6_packetsAtDistance_X6_packetsAt
theorem dX6_packetsAtDistance_0 : decode cX6_packetsAtDistance 0 = .ok (.iload_n 1, 1) := by decide +kernel
theorem dX6_packetsAtDistance_1 : decode cX6_packetsAtDistance 1 = .ok (.iconst 0, 1) := by decide +kernel
theorem dX6_packetsAtDistance_2 : decode cX6_packetsAtDistance 2 = .ok (.bipush 31, 2) := by decide +kernel
theorem dX6_packetsAtDistance_4 : decode cX6_packetsAtDistance 4 = .ok (.invokestatic 56, 3) := by decide +kernel
theorem dX6_packetsAtDistance_7 : decode cX6_packetsAtDistance 7 = .ok (.ifCond .eq 11, 3) := by decide +kernel
theorem dX6_packetsAtDistance_10 : decode cX6_packetsAtDistance 10 = .ok (.aload_n 0, 1) := by decide +kernel
theorem dX6_packetsAtDistance_11 : decode cX6_packetsAtDistance 11 = .ok (.iload_n 1, 1) := by decide +kernel
theorem dX6_packetsAtDistance_12 : decode cX6_packetsAtDistance 12 = .ok (.invokevirtual 122, 3) := by decide +kernel
theorem dX6_packetsAtDistance_15 : decode cX6_packetsAtDistance 15 = .ok (.goto 5, 3) := by decide +kernel
theorem dX6_packetsAtDistance_18 : decode cX6_packetsAtDistance 18 = .ok (.bipush (-2), 2) := by decide +kernel
theorem dX6_packetsAtDistance_20 : decode cX6_packetsAtDistance 20 = .ok (.ireturn, 1) := by decide +kernel
theorem dX6_unmarkedCount_0 : decode cX6_unmarkedCount 0 = .ok (.aload_n 0, 1) := by decide +kernel
theorem dX6_unmarkedCount_1 : decode cX6_unmarkedCount 1 = .ok (.getfield 106, 3) := by decide +kernel
theorem dX6_unmarkedCount_4 : decode cX6_unmarkedCount 4 = .ok (.ireturn, 1) := by decide +kernel
set_option maxRecDepth 20000 in
theorem ggX6_markCount_X6_isMark : GoodIn wsX6_markCount wsX6_isMark := goodIn_r _ [5, 6, 7, 4, 8] (by decide +kernel) (by decide +kernel)
set_option maxRecDepth 20000 in
theorem gX6_markCount_X6_isMark : GoodIn wsX6_markCount (va_wsS RX6 119 yX6_isMark wsX6_isMark) := goodIn_app (goodIn_of _ (by decide +kernel)) ggX6_markCount_X6_isMark
set_option maxRecDepth 20000 in
theorem ggX6_markCount_X6_placeOf : GoodIn wsX6_markCount wsX6_placeOf := goodIn_r _ [11] (by decide +kernel) (by decide +kernel)
set_option maxRecDepth 20000 in
theorem gX6_markCount_X6_placeOf : GoodIn wsX6_markCount (va_wsS RX6 109 yX6_placeOf wsX6_placeOf) := goodIn_app (goodIn_of _ (by decide +kernel)) ggX6_markCount_X6_placeOf
theorem dX6_markCount_0 : decode cX6_markCount 0 = .ok (.iload_n 1, 1) := by decide +kernel
theorem dX6_markCount_1 : decode cX6_markCount 1 = .ok (.iload_n 2, 1) := by decide +kernel
theorem dX6_markCount_2 : decode cX6_markCount 2 = .ok (.iload_n 3, 1) := by decide +kernel
theorem dX6_markCount_3 : decode cX6_markCount 3 = .ok (.invokestatic 119, 3) := by decide +kernel
theorem dX6_markCount_6 : decode cX6_markCount 6 = .ok (.ifCond .eq 17, 3) := by decide +kernel
theorem dX6_markCount_9 : decode cX6_markCount 9 = .ok (.aload_n 0, 1) := by decide +kernel
theorem dX6_markCount_10 : decode cX6_markCount 10 = .ok (.getfield 19, 3) := by decide +kernel
theorem dX6_markCount_13 : decode cX6_markCount 13 = .ok (.iload_n 1, 1) := by decide +kernel
theorem dX6_markCount_14 : decode cX6_markCount 14 = .ok (.iload_n 2, 1) := by decide +kernel
theorem dX6_markCount_15 : decode cX6_markCount 15 = .ok (.iload_n 3, 1) := by decide +kernel
theorem dX6_markCount_16 : decode cX6_markCount 16 = .ok (.invokestatic 109, 3) := by decide +kernel
theorem dX6_markCount_19 : decode cX6_markCount 19 = .ok (.iaload, 1) := by decide +kernel
theorem dX6_markCount_20 : decode cX6_markCount 20 = .ok (.goto 5, 3) := by decide +kernel
theorem dX6_markCount_23 : decode cX6_markCount 23 = .ok (.bipush (-2), 2) := by decide +kernel
theorem dX6_markCount_25 : decode cX6_markCount 25 = .ok (.ireturn, 1) := by decide +kernel
set_option maxRecDepth 20000 in
theorem ggX6_different_X6_placeOf : GoodIn wsX6_different wsX6_placeOf := goodIn_r _ [5] (by decide +kernel) (by decide +kernel)
set_option maxRecDepth 20000 in
theorem gX6_different_X6_placeOf : GoodIn wsX6_different (va_wsS RX6 109 yX6_placeOf wsX6_placeOf) := goodIn_app (goodIn_of _ (by decide +kernel)) ggX6_different_X6_placeOf
theorem dX6_different_0 : decode cX6_different 0 = .ok (.iconst 0, 1) := by decide +kernel
theorem dX6_different_1 : decode cX6_different 1 = .ok (.istore_n 3, 1) := by decide +kernel
theorem dX6_different_2 : decode cX6_different 2 = .ok (.iconst 0, 1) := by decide +kernel
theorem dX6_different_3 : decode cX6_different 3 = .ok (.istore 4, 2) := by decide +kernel
theorem dX6_different_5 : decode cX6_different 5 = .ok (.iload 4, 2) := by decide +kernel
theorem dX6_different_7 : decode cX6_different 7 = .ok (.bipush 32, 2) := by decide +kernel
theorem dX6_different_9 : decode cX6_different 9 = .ok (.if_icmp .ge 32, 3) := by decide +kernel
theorem dX6_different_12 : decode cX6_different 12 = .ok (.iload_n 3, 1) := by decide +kernel
theorem dX6_different_13 : decode cX6_different 13 = .ok (.aload_n 0, 1) := by decide +kernel
theorem dX6_different_14 : decode cX6_different 14 = .ok (.getfield 19, 3) := by decide +kernel
theorem dX6_different_17 : decode cX6_different 17 = .ok (.iload_n 1, 1) := by decide +kernel
theorem dX6_different_18 : decode cX6_different 18 = .ok (.iload_n 2, 1) := by decide +kernel
theorem dX6_different_19 : decode cX6_different 19 = .ok (.iload 4, 2) := by decide +kernel
theorem dX6_different_21 : decode cX6_different 21 = .ok (.invokestatic 109, 3) := by decide +kernel
theorem dX6_different_24 : decode cX6_different 24 = .ok (.iaload, 1) := by decide +kernel
theorem dX6_different_25 : decode cX6_different 25 = .ok (.ifCond .le 7, 3) := by decide +kernel
theorem dX6_different_28 : decode cX6_different 28 = .ok (.iconst 1, 1) := by decide +kernel
theorem dX6_different_29 : decode cX6_different 29 = .ok (.goto 4, 3) := by decide +kernel
theorem dX6_different_32 : decode cX6_different 32 = .ok (.iconst 0, 1) := by decide +kernel
theorem dX6_different_33 : decode cX6_different 33 = .ok (.iadd, 1) := by decide +kernel
theorem dX6_different_34 : decode cX6_different 34 = .ok (.istore_n 3, 1) := by decide +kernel
theorem dX6_different_35 : decode cX6_different 35 = .ok (.iinc 4 1, 3) := by decide +kernel
theorem dX6_different_38 : decode cX6_different 38 = .ok (.goto (-33), 3) := by decide +kernel
theorem dX6_different_41 : decode cX6_different 41 = .ok (.iload_n 3, 1) := by decide +kernel
theorem dX6_different_42 : decode cX6_different 42 = .ok (.ireturn, 1) := by decide +kernel
set_option maxRecDepth 20000 in
theorem ggX6_fragmentCount_X6_isMark : GoodIn wsX6_fragmentCount wsX6_isMark := goodIn_r _ [4, 5, 6, 3, 7] (by decide +kernel) (by decide +kernel)
set_option maxRecDepth 20000 in
theorem gX6_fragmentCount_X6_isMark : GoodIn wsX6_fragmentCount (va_wsS RX6 119 yX6_isMark wsX6_isMark) := goodIn_app (goodIn_of _ (by decide +kernel)) ggX6_fragmentCount_X6_isMark
set_option maxRecDepth 20000 in
theorem ggX6_fragmentCount_X6_different : GoodIn wsX6_fragmentCount wsX6_different := goodIn_r _ [11, 12, 13, 14, 3, 15, 16, 17, 18, 19, 20, 21, 22, 23, 24, 25, 26, 27, 28, 29, 30, 31, 32, 33, 34, 35, 36, 37, 38, 39] (by decide +kernel) (by decide +kernel)
set_option maxRecDepth 20000 in
theorem gX6_fragmentCount_X6_different : GoodIn wsX6_fragmentCount (wsV RX6 125 RX6 yX6_different wsX6_different) := goodIn_app (goodIn_of _ (by decide +kernel)) ggX6_fragmentCount_X6_different
theorem dX6_fragmentCount_0 : decode cX6_fragmentCount 0 = .ok (.iload_n 1, 1) := by decide +kernel
theorem dX6_fragmentCount_1 : decode cX6_fragmentCount 1 = .ok (.iload_n 2, 1) := by decide +kernel
theorem dX6_fragmentCount_2 : decode cX6_fragmentCount 2 = .ok (.iconst 0, 1) := by decide +kernel
theorem dX6_fragmentCount_3 : decode cX6_fragmentCount 3 = .ok (.invokestatic 119, 3) := by decide +kernel
theorem dX6_fragmentCount_6 : decode cX6_fragmentCount 6 = .ok (.ifCond .eq 12, 3) := by decide +kernel
theorem dX6_fragmentCount_9 : decode cX6_fragmentCount 9 = .ok (.aload_n 0, 1) := by decide +kernel
theorem dX6_fragmentCount_10 : decode cX6_fragmentCount 10 = .ok (.iload_n 1, 1) := by decide +kernel
theorem dX6_fragmentCount_11 : decode cX6_fragmentCount 11 = .ok (.iload_n 2, 1) := by decide +kernel
theorem dX6_fragmentCount_12 : decode cX6_fragmentCount 12 = .ok (.invokevirtual 125, 3) := by decide +kernel
theorem dX6_fragmentCount_15 : decode cX6_fragmentCount 15 = .ok (.goto 5, 3) := by decide +kernel
theorem dX6_fragmentCount_18 : decode cX6_fragmentCount 18 = .ok (.bipush (-2), 2) := by decide +kernel
theorem dX6_fragmentCount_20 : decode cX6_fragmentCount 20 = .ok (.ireturn, 1) := by decide +kernel
set_option maxRecDepth 20000 in
theorem ggX6_greatestDistance_X6_packetsAt : GoodIn wsX6_greatestDistance wsX6_packetsAt := goodIn_r _ [5, 6, 7, 8, 9, 10, 11, 12, 13, 14, 15, 16, 17, 18, 19, 20, 21, 22, 23, 24, 25, 26, 27, 28, 29, 30] (by decide +kernel) (by decide +kernel)
set_option maxRecDepth 20000 in
theorem gX6_greatestDistance_X6_packetsAt : GoodIn wsX6_greatestDistance (wsV RX6 122 RX6 yX6_packetsAt wsX6_packetsAt) := goodIn_app (goodIn_of _ (by decide +kernel)) ggX6_greatestDistance_X6_packetsAt
theorem dX6_greatestDistance_0 : decode cX6_greatestDistance 0 = .ok (.bipush 31, 2) := by decide +kernel
theorem dX6_greatestDistance_2 : decode cX6_greatestDistance 2 = .ok (.istore_n 1, 1) := by decide +kernel
theorem dX6_greatestDistance_3 : decode cX6_greatestDistance 3 = .ok (.iload_n 1, 1) := by decide +kernel
theorem dX6_greatestDistance_4 : decode cX6_greatestDistance 4 = .ok (.ifCond .lt 19, 3) := by decide +kernel
theorem dX6_greatestDistance_7 : decode cX6_greatestDistance 7 = .ok (.aload_n 0, 1) := by decide +kernel
theorem dX6_greatestDistance_8 : decode cX6_greatestDistance 8 = .ok (.iload_n 1, 1) := by decide +kernel
theorem dX6_greatestDistance_9 : decode cX6_greatestDistance 9 = .ok (.invokevirtual 122, 3) := by decide +kernel
theorem dX6_greatestDistance_12 : decode cX6_greatestDistance 12 = .ok (.ifCond .le 5, 3) := by decide +kernel
theorem dX6_greatestDistance_15 : decode cX6_greatestDistance 15 = .ok (.iload_n 1, 1) := by decide +kernel
theorem dX6_greatestDistance_16 : decode cX6_greatestDistance 16 = .ok (.ireturn, 1) := by decide +kernel
theorem dX6_greatestDistance_17 : decode cX6_greatestDistance 17 = .ok (.iinc 1 (-1), 3) := by decide +kernel
theorem dX6_greatestDistance_20 : decode cX6_greatestDistance 20 = .ok (.goto (-17), 3) := by decide +kernel
theorem dX6_greatestDistance_23 : decode cX6_greatestDistance 23 = .ok (.bipush (-7), 2) := by decide +kernel
theorem dX6_greatestDistance_25 : decode cX6_greatestDistance 25 = .ok (.ireturn, 1) := by decide +kernel
set_option maxRecDepth 20000 in
theorem ggX6_trueFragment_X6_wordOf : GoodIn wsX6_trueFragment wsX6_wordOf := goodIn_r _ [6, 7, 8, 5, 9] (by decide +kernel) (by decide +kernel)
set_option maxRecDepth 20000 in
theorem gX6_trueFragment_X6_wordOf : GoodIn wsX6_trueFragment (va_wsS RX6 74 yX6_wordOf wsX6_wordOf) := goodIn_app (goodIn_of _ (by decide +kernel)) ggX6_trueFragment_X6_wordOf
set_option maxRecDepth 20000 in
theorem ggX6_trueFragment_X6_fragmentOf : GoodIn wsX6_trueFragment wsX6_fragmentOf := goodIn_r _ [12] (by decide +kernel) (by decide +kernel)
set_option maxRecDepth 20000 in
theorem gX6_trueFragment_X6_fragmentOf : GoodIn wsX6_trueFragment (va_wsS RX6 77 yX6_fragmentOf wsX6_fragmentOf) := goodIn_app (goodIn_of _ (by decide +kernel)) ggX6_trueFragment_X6_fragmentOf
theorem dX6_trueFragment_0 : decode cX6_trueFragment 0 = .ok (.aload_n 0, 1) := by decide +kernel
theorem dX6_trueFragment_1 : decode cX6_trueFragment 1 = .ok (.getfield 13, 3) := by decide +kernel
theorem dX6_trueFragment_4 : decode cX6_trueFragment 4 = .ok (.iload_n 1, 1) := by decide +kernel
theorem dX6_trueFragment_5 : decode cX6_trueFragment 5 = .ok (.iaload, 1) := by decide +kernel
theorem dX6_trueFragment_6 : decode cX6_trueFragment 6 = .ok (.invokestatic 74, 3) := by decide +kernel
theorem dX6_trueFragment_9 : decode cX6_trueFragment 9 = .ok (.iload_n 2, 1) := by decide +kernel
theorem dX6_trueFragment_10 : decode cX6_trueFragment 10 = .ok (.invokestatic 77, 3) := by decide +kernel
theorem dX6_trueFragment_13 : decode cX6_trueFragment 13 = .ok (.istore_n 3, 1) := by decide +kernel
theorem dX6_trueFragment_14 : decode cX6_trueFragment 14 = .ok (.aload_n 0, 1) := by decide +kernel
theorem dX6_trueFragment_15 : decode cX6_trueFragment 15 = .ok (.getfield 7, 3) := by decide +kernel
theorem dX6_trueFragment_18 : decode cX6_trueFragment 18 = .ok (.iload_n 1, 1) := by decide +kernel
theorem dX6_trueFragment_19 : decode cX6_trueFragment 19 = .ok (.iaload, 1) := by decide +kernel
theorem dX6_trueFragment_20 : decode cX6_trueFragment 20 = .ok (.bipush (-7), 2) := by decide +kernel
theorem dX6_trueFragment_22 : decode cX6_trueFragment 22 = .ok (.if_icmp .ne 7, 3) := by decide +kernel
theorem dX6_trueFragment_25 : decode cX6_trueFragment 25 = .ok (.iload_n 3, 1) := by decide +kernel
theorem dX6_trueFragment_26 : decode cX6_trueFragment 26 = .ok (.goto 23, 3) := by decide +kernel
theorem dX6_trueFragment_29 : decode cX6_trueFragment 29 = .ok (.iload_n 3, 1) := by decide +kernel
theorem dX6_trueFragment_30 : decode cX6_trueFragment 30 = .ok (.aload_n 0, 1) := by decide +kernel
theorem dX6_trueFragment_31 : decode cX6_trueFragment 31 = .ok (.getfield 13, 3) := by decide +kernel
theorem dX6_trueFragment_34 : decode cX6_trueFragment 34 = .ok (.aload_n 0, 1) := by decide +kernel
theorem dX6_trueFragment_35 : decode cX6_trueFragment 35 = .ok (.getfield 7, 3) := by decide +kernel
theorem dX6_trueFragment_38 : decode cX6_trueFragment 38 = .ok (.iload_n 1, 1) := by decide +kernel
theorem dX6_trueFragment_39 : decode cX6_trueFragment 39 = .ok (.iaload, 1) := by decide +kernel
theorem dX6_trueFragment_40 : decode cX6_trueFragment 40 = .ok (.iaload, 1) := by decide +kernel
theorem dX6_trueFragment_41 : decode cX6_trueFragment 41 = .ok (.invokestatic 74, 3) := by decide +kernel
theorem dX6_trueFragment_44 : decode cX6_trueFragment 44 = .ok (.iload_n 2, 1) := by decide +kernel
theorem dX6_trueFragment_45 : decode cX6_trueFragment 45 = .ok (.invokestatic 77, 3) := by decide +kernel
theorem dX6_trueFragment_48 : decode cX6_trueFragment 48 = .ok (.ixor, 1) := by decide +kernel
theorem dX6_trueFragment_49 : decode cX6_trueFragment 49 = .ok (.ireturn, 1) := by decide +kernel
set_option maxRecDepth 20000 in
theorem ggX6_isPathComplete_X6_isRouter : GoodIn wsX6_isPathComplete wsX6_isRouter := goodIn_r _ [8, 9, 10, 11, 7, 12, 30, 31, 32, 33, 34, 35, 36, 37, 38, 39, 40, 41, 42, 43, 44, 45, 46, 47, 48, 49, 50, 51, 52, 53] (by decide +kernel) (by decide +kernel)
set_option maxRecDepth 20000 in
theorem gX6_isPathComplete_X6_isRouter : GoodIn wsX6_isPathComplete (wsV RX6 60 RX6 yX6_isRouter wsX6_isRouter) := goodIn_app (goodIn_of _ (by decide +kernel)) ggX6_isPathComplete_X6_isRouter
set_option maxRecDepth 20000 in
theorem ggX6_isPathComplete_X6_trueFragment : GoodIn wsX6_isPathComplete wsX6_trueFragment := goodIn_r _ [16, 17, 3, 18, 19, 7, 20, 21, 22, 23, 24, 25, 26, 30, 31, 32, 33, 34, 35, 36, 37, 38, 39, 40, 41, 42, 43, 44, 45, 46, 47, 48, 49, 50, 51, 52, 53] (by decide +kernel) (by decide +kernel)
set_option maxRecDepth 20000 in
theorem gX6_isPathComplete_X6_trueFragment : GoodIn wsX6_isPathComplete (wsV RX6 128 RX6 yX6_trueFragment wsX6_trueFragment) := goodIn_app (goodIn_of _ (by decide +kernel)) ggX6_isPathComplete_X6_trueFragment
set_option maxRecDepth 20000 in
theorem ggX6_isPathComplete_X6_placeOf : GoodIn wsX6_isPathComplete wsX6_placeOf := goodIn_r _ [29] (by decide +kernel) (by decide +kernel)
set_option maxRecDepth 20000 in
theorem gX6_isPathComplete_X6_placeOf : GoodIn wsX6_isPathComplete (va_wsS RX6 109 yX6_placeOf wsX6_placeOf) := goodIn_app (goodIn_of _ (by decide +kernel)) ggX6_isPathComplete_X6_placeOf
theorem dX6_isPathComplete_0 : decode cX6_isPathComplete 0 = .ok (.aload_n 0, 1) := by decide +kernel
theorem dX6_isPathComplete_1 : decode cX6_isPathComplete 1 = .ok (.iload_n 1, 1) := by decide +kernel
theorem dX6_isPathComplete_2 : decode cX6_isPathComplete 2 = .ok (.invokevirtual 60, 3) := by decide +kernel
theorem dX6_isPathComplete_5 : decode cX6_isPathComplete 5 = .ok (.ifCond .ne 5, 3) := by decide +kernel
theorem dX6_isPathComplete_8 : decode cX6_isPathComplete 8 = .ok (.iconst (-1), 1) := by decide +kernel
theorem dX6_isPathComplete_9 : decode cX6_isPathComplete 9 = .ok (.ireturn, 1) := by decide +kernel
theorem dX6_isPathComplete_10 : decode cX6_isPathComplete 10 = .ok (.iload_n 1, 1) := by decide +kernel
theorem dX6_isPathComplete_11 : decode cX6_isPathComplete 11 = .ok (.istore_n 2, 1) := by decide +kernel
theorem dX6_isPathComplete_12 : decode cX6_isPathComplete 12 = .ok (.iload_n 2, 1) := by decide +kernel
theorem dX6_isPathComplete_13 : decode cX6_isPathComplete 13 = .ok (.bipush (-7), 2) := by decide +kernel
theorem dX6_isPathComplete_15 : decode cX6_isPathComplete 15 = .ok (.if_icmp .eq 52, 3) := by decide +kernel
theorem dX6_isPathComplete_18 : decode cX6_isPathComplete 18 = .ok (.iconst 0, 1) := by decide +kernel
theorem dX6_isPathComplete_19 : decode cX6_isPathComplete 19 = .ok (.istore_n 3, 1) := by decide +kernel
theorem dX6_isPathComplete_20 : decode cX6_isPathComplete 20 = .ok (.iload_n 3, 1) := by decide +kernel
theorem dX6_isPathComplete_21 : decode cX6_isPathComplete 21 = .ok (.iconst 4, 1) := by decide +kernel
theorem dX6_isPathComplete_22 : decode cX6_isPathComplete 22 = .ok (.if_icmp .ge 35, 3) := by decide +kernel
theorem dX6_isPathComplete_25 : decode cX6_isPathComplete 25 = .ok (.aload_n 0, 1) := by decide +kernel
theorem dX6_isPathComplete_26 : decode cX6_isPathComplete 26 = .ok (.getfield 19, 3) := by decide +kernel
theorem dX6_isPathComplete_29 : decode cX6_isPathComplete 29 = .ok (.aload_n 0, 1) := by decide +kernel
theorem dX6_isPathComplete_30 : decode cX6_isPathComplete 30 = .ok (.getfield 16, 3) := by decide +kernel
theorem dX6_isPathComplete_33 : decode cX6_isPathComplete 33 = .ok (.iload_n 2, 1) := by decide +kernel
theorem dX6_isPathComplete_34 : decode cX6_isPathComplete 34 = .ok (.iaload, 1) := by decide +kernel
theorem dX6_isPathComplete_35 : decode cX6_isPathComplete 35 = .ok (.iload_n 3, 1) := by decide +kernel
theorem dX6_isPathComplete_36 : decode cX6_isPathComplete 36 = .ok (.aload_n 0, 1) := by decide +kernel
theorem dX6_isPathComplete_37 : decode cX6_isPathComplete 37 = .ok (.iload_n 2, 1) := by decide +kernel
theorem dX6_isPathComplete_38 : decode cX6_isPathComplete 38 = .ok (.iload_n 3, 1) := by decide +kernel
theorem dX6_isPathComplete_39 : decode cX6_isPathComplete 39 = .ok (.invokevirtual 128, 3) := by decide +kernel
theorem dX6_isPathComplete_42 : decode cX6_isPathComplete 42 = .ok (.invokestatic 109, 3) := by decide +kernel
theorem dX6_isPathComplete_45 : decode cX6_isPathComplete 45 = .ok (.iaload, 1) := by decide +kernel
theorem dX6_isPathComplete_46 : decode cX6_isPathComplete 46 = .ok (.ifCond .ne 5, 3) := by decide +kernel
theorem dX6_isPathComplete_49 : decode cX6_isPathComplete 49 = .ok (.iconst 0, 1) := by decide +kernel
theorem dX6_isPathComplete_50 : decode cX6_isPathComplete 50 = .ok (.ireturn, 1) := by decide +kernel
theorem dX6_isPathComplete_51 : decode cX6_isPathComplete 51 = .ok (.iinc 3 1, 3) := by decide +kernel
theorem dX6_isPathComplete_54 : decode cX6_isPathComplete 54 = .ok (.goto (-34), 3) := by decide +kernel
theorem dX6_isPathComplete_57 : decode cX6_isPathComplete 57 = .ok (.aload_n 0, 1) := by decide +kernel
theorem dX6_isPathComplete_58 : decode cX6_isPathComplete 58 = .ok (.getfield 7, 3) := by decide +kernel
theorem dX6_isPathComplete_61 : decode cX6_isPathComplete 61 = .ok (.iload_n 2, 1) := by decide +kernel
theorem dX6_isPathComplete_62 : decode cX6_isPathComplete 62 = .ok (.iaload, 1) := by decide +kernel
theorem dX6_isPathComplete_63 : decode cX6_isPathComplete 63 = .ok (.istore_n 2, 1) := by decide +kernel
theorem dX6_isPathComplete_64 : decode cX6_isPathComplete 64 = .ok (.goto (-52), 3) := by decide +kernel
theorem dX6_isPathComplete_67 : decode cX6_isPathComplete 67 = .ok (.iconst 1, 1) := by decide +kernel
theorem dX6_isPathComplete_68 : decode cX6_isPathComplete 68 = .ok (.ireturn, 1) := by decide +kernel
theorem dX6_startsTrial_0 : decode cX6_startsTrial 0 = .ok (.iconst 0, 1) := by decide +kernel
theorem dX6_startsTrial_1 : decode cX6_startsTrial 1 = .ok (.istore_n 2, 1) := by decide +kernel
theorem dX6_startsTrial_2 : decode cX6_startsTrial 2 = .ok (.iload_n 2, 1) := by decide +kernel
theorem dX6_startsTrial_3 : decode cX6_startsTrial 3 = .ok (.bipush 20, 2) := by decide +kernel
theorem dX6_startsTrial_5 : decode cX6_startsTrial 5 = .ok (.if_icmp .ge 31, 3) := by decide +kernel
theorem dX6_startsTrial_8 : decode cX6_startsTrial 8 = .ok (.aload_n 0, 1) := by decide +kernel
theorem dX6_startsTrial_9 : decode cX6_startsTrial 9 = .ok (.getfield 22, 3) := by decide +kernel
theorem dX6_startsTrial_12 : decode cX6_startsTrial 12 = .ok (.iload_n 2, 1) := by decide +kernel
theorem dX6_startsTrial_13 : decode cX6_startsTrial 13 = .ok (.iload_n 2, 1) := by decide +kernel
theorem dX6_startsTrial_14 : decode cX6_startsTrial 14 = .ok (.aload_n 0, 1) := by decide +kernel
theorem dX6_startsTrial_15 : decode cX6_startsTrial 15 = .ok (.getfield 16, 3) := by decide +kernel
theorem dX6_startsTrial_18 : decode cX6_startsTrial 18 = .ok (.iload_n 1, 1) := by decide +kernel
theorem dX6_startsTrial_19 : decode cX6_startsTrial 19 = .ok (.iaload, 1) := by decide +kernel
theorem dX6_startsTrial_20 : decode cX6_startsTrial 20 = .ok (.if_icmp .gt 8, 3) := by decide +kernel
theorem dX6_startsTrial_23 : decode cX6_startsTrial 23 = .ok (.bipush 15, 2) := by decide +kernel
theorem dX6_startsTrial_25 : decode cX6_startsTrial 25 = .ok (.goto 4, 3) := by decide +kernel
theorem dX6_startsTrial_28 : decode cX6_startsTrial 28 = .ok (.iconst 0, 1) := by decide +kernel
theorem dX6_startsTrial_29 : decode cX6_startsTrial 29 = .ok (.iastore, 1) := by decide +kernel
theorem dX6_startsTrial_30 : decode cX6_startsTrial 30 = .ok (.iinc 2 1, 3) := by decide +kernel
theorem dX6_startsTrial_33 : decode cX6_startsTrial 33 = .ok (.goto (-31), 3) := by decide +kernel
theorem dX6_startsTrial_36 : decode cX6_startsTrial 36 = .ok (.return_, 1) := by decide +kernel
theorem dX6_isTrialComplete_0 : decode cX6_isTrialComplete 0 = .ok (.iconst 0, 1) := by decide +kernel
theorem dX6_isTrialComplete_1 : decode cX6_isTrialComplete 1 = .ok (.istore_n 1, 1) := by decide +kernel
theorem dX6_isTrialComplete_2 : decode cX6_isTrialComplete 2 = .ok (.iload_n 1, 1) := by decide +kernel
theorem dX6_isTrialComplete_3 : decode cX6_isTrialComplete 3 = .ok (.bipush 20, 2) := by decide +kernel
theorem dX6_isTrialComplete_5 : decode cX6_isTrialComplete 5 = .ok (.if_icmp .ge 20, 3) := by decide +kernel
theorem dX6_isTrialComplete_8 : decode cX6_isTrialComplete 8 = .ok (.aload_n 0, 1) := by decide +kernel
theorem dX6_isTrialComplete_9 : decode cX6_isTrialComplete 9 = .ok (.getfield 22, 3) := by decide +kernel
theorem dX6_isTrialComplete_12 : decode cX6_isTrialComplete 12 = .ok (.iload_n 1, 1) := by decide +kernel
theorem dX6_isTrialComplete_13 : decode cX6_isTrialComplete 13 = .ok (.iaload, 1) := by decide +kernel
theorem dX6_isTrialComplete_14 : decode cX6_isTrialComplete 14 = .ok (.ifCond .eq 5, 3) := by decide +kernel
theorem dX6_isTrialComplete_17 : decode cX6_isTrialComplete 17 = .ok (.iconst 0, 1) := by decide +kernel
theorem dX6_isTrialComplete_18 : decode cX6_isTrialComplete 18 = .ok (.ireturn, 1) := by decide +kernel
theorem dX6_isTrialComplete_19 : decode cX6_isTrialComplete 19 = .ok (.iinc 1 1, 3) := by decide +kernel
theorem dX6_isTrialComplete_22 : decode cX6_isTrialComplete 22 = .ok (.goto (-20), 3) := by decide +kernel
theorem dX6_isTrialComplete_25 : decode cX6_isTrialComplete 25 = .ok (.iconst 1, 1) := by decide +kernel
theorem dX6_isTrialComplete_26 : decode cX6_isTrialComplete 26 = .ok (.ireturn, 1) := by decide +kernel
set_option maxRecDepth 20000 in
theorem ggX6_packetsNeeded_X6_isRouter : GoodIn wsX6_packetsNeeded wsX6_isRouter := goodIn_r _ [9, 10, 11, 12, 8, 13, 50, 51, 52, 53, 54, 55, 56, 57, 58, 59, 60, 61, 62, 63, 64, 65, 66, 67, 68, 69, 70, 71, 72, 73] (by decide +kernel) (by decide +kernel)
set_option maxRecDepth 20000 in
theorem gX6_packetsNeeded_X6_isRouter : GoodIn wsX6_packetsNeeded (wsV RX6 60 RX6 yX6_isRouter wsX6_isRouter) := goodIn_app (goodIn_of _ (by decide +kernel)) ggX6_packetsNeeded_X6_isRouter
set_option maxRecDepth 20000 in
theorem ggX6_packetsNeeded_X6_within : GoodIn wsX6_packetsNeeded wsX6_within := goodIn_r _ [13] (by decide +kernel) (by decide +kernel)
set_option maxRecDepth 20000 in
theorem gX6_packetsNeeded_X6_within : GoodIn wsX6_packetsNeeded (va_wsS RX6 56 yX6_within wsX6_within) := goodIn_app (goodIn_of _ (by decide +kernel)) ggX6_packetsNeeded_X6_within
set_option maxRecDepth 20000 in
theorem ggX6_packetsNeeded_X6_startsTrial : GoodIn wsX6_packetsNeeded wsX6_startsTrial := goodIn_r _ [17, 3, 18, 50, 51, 52, 53, 54, 55, 56, 57, 58, 59, 60, 61, 62, 63, 64, 65, 66, 67, 68, 69, 70, 71, 72, 73] (by decide +kernel) (by decide +kernel)
set_option maxRecDepth 20000 in
theorem gX6_packetsNeeded_X6_startsTrial : GoodIn wsX6_packetsNeeded (wsV RX6 131 RX6 yX6_startsTrial wsX6_startsTrial) := goodIn_app (goodIn_of _ (by decide +kernel)) ggX6_packetsNeeded_X6_startsTrial
set_option maxRecDepth 20000 in
theorem ggX6_packetsNeeded_X6_isTrialComplete : GoodIn wsX6_packetsNeeded wsX6_isTrialComplete := goodIn_r _ [22, 3, 50, 51, 52, 53, 54, 55, 56, 57, 58, 59, 60, 61, 62, 63, 64, 65, 66, 67, 68, 69, 70, 71, 72, 73] (by decide +kernel) (by decide +kernel)
set_option maxRecDepth 20000 in
theorem gX6_packetsNeeded_X6_isTrialComplete : GoodIn wsX6_packetsNeeded (wsV RX6 134 RX6 yX6_isTrialComplete wsX6_isTrialComplete) := goodIn_app (goodIn_of _ (by decide +kernel)) ggX6_packetsNeeded_X6_isTrialComplete
set_option maxRecDepth 20000 in
theorem ggX6_packetsNeeded_X6_travels : GoodIn wsX6_packetsNeeded wsX6_travels := goodIn_r _ [26, 27, 28, 29, 30, 8, 31, 32, 33, 4, 2, 34, 35, 36, 37, 38, 39, 40, 41, 42, 43, 44, 45, 1, 46, 47, 48, 49, 50, 51, 52, 53, 54, 55, 56, 57, 58, 59, 60, 61, 62, 63, 64, 65, 66, 67, 68, 69, 70, 71, 72, 73] (by decide +kernel) (by decide +kernel)
set_option maxRecDepth 20000 in
theorem gX6_packetsNeeded_X6_travels : GoodIn wsX6_packetsNeeded (wsV RX6 113 RX6 yX6_travels wsX6_travels) := goodIn_app (goodIn_of _ (by decide +kernel)) ggX6_packetsNeeded_X6_travels
theorem dX6_packetsNeeded_0 : decode cX6_packetsNeeded 0 = .ok (.aload_n 0, 1) := by decide +kernel
theorem dX6_packetsNeeded_1 : decode cX6_packetsNeeded 1 = .ok (.iload_n 1, 1) := by decide +kernel
theorem dX6_packetsNeeded_2 : decode cX6_packetsNeeded 2 = .ok (.invokevirtual 60, 3) := by decide +kernel
theorem dX6_packetsNeeded_5 : decode cX6_packetsNeeded 5 = .ok (.ifCond .ne 5, 3) := by decide +kernel
theorem dX6_packetsNeeded_8 : decode cX6_packetsNeeded 8 = .ok (.iconst (-1), 1) := by decide +kernel
theorem dX6_packetsNeeded_9 : decode cX6_packetsNeeded 9 = .ok (.ireturn, 1) := by decide +kernel
theorem dX6_packetsNeeded_10 : decode cX6_packetsNeeded 10 = .ok (.iload_n 2, 1) := by decide +kernel
theorem dX6_packetsNeeded_11 : decode cX6_packetsNeeded 11 = .ok (.iconst 1, 1) := by decide +kernel
theorem dX6_packetsNeeded_12 : decode cX6_packetsNeeded 12 = .ok (.sipush 2000, 3) := by decide +kernel
theorem dX6_packetsNeeded_15 : decode cX6_packetsNeeded 15 = .ok (.invokestatic 56, 3) := by decide +kernel
theorem dX6_packetsNeeded_18 : decode cX6_packetsNeeded 18 = .ok (.ifCond .ne 6, 3) := by decide +kernel
theorem dX6_packetsNeeded_21 : decode cX6_packetsNeeded 21 = .ok (.bipush (-2), 2) := by decide +kernel
theorem dX6_packetsNeeded_23 : decode cX6_packetsNeeded 23 = .ok (.ireturn, 1) := by decide +kernel
theorem dX6_packetsNeeded_24 : decode cX6_packetsNeeded 24 = .ok (.aload_n 0, 1) := by decide +kernel
theorem dX6_packetsNeeded_25 : decode cX6_packetsNeeded 25 = .ok (.getfield 50, 3) := by decide +kernel
theorem dX6_packetsNeeded_28 : decode cX6_packetsNeeded 28 = .ok (.istore_n 3, 1) := by decide +kernel
theorem dX6_packetsNeeded_29 : decode cX6_packetsNeeded 29 = .ok (.iconst 0, 1) := by decide +kernel
theorem dX6_packetsNeeded_30 : decode cX6_packetsNeeded 30 = .ok (.istore 4, 2) := by decide +kernel
theorem dX6_packetsNeeded_32 : decode cX6_packetsNeeded 32 = .ok (.aload_n 0, 1) := by decide +kernel
theorem dX6_packetsNeeded_33 : decode cX6_packetsNeeded 33 = .ok (.iload_n 1, 1) := by decide +kernel
theorem dX6_packetsNeeded_34 : decode cX6_packetsNeeded 34 = .ok (.invokevirtual 131, 3) := by decide +kernel
theorem dX6_packetsNeeded_37 : decode cX6_packetsNeeded 37 = .ok (.iload 4, 2) := by decide +kernel
theorem dX6_packetsNeeded_39 : decode cX6_packetsNeeded 39 = .ok (.iload_n 2, 1) := by decide +kernel
theorem dX6_packetsNeeded_40 : decode cX6_packetsNeeded 40 = .ok (.if_icmp .ge 56, 3) := by decide +kernel
theorem dX6_packetsNeeded_43 : decode cX6_packetsNeeded 43 = .ok (.aload_n 0, 1) := by decide +kernel
theorem dX6_packetsNeeded_44 : decode cX6_packetsNeeded 44 = .ok (.invokevirtual 134, 3) := by decide +kernel
theorem dX6_packetsNeeded_47 : decode cX6_packetsNeeded 47 = .ok (.ifCond .ne 49, 3) := by decide +kernel
theorem dX6_packetsNeeded_50 : decode cX6_packetsNeeded 50 = .ok (.aload_n 0, 1) := by decide +kernel
theorem dX6_packetsNeeded_51 : decode cX6_packetsNeeded 51 = .ok (.bipush (-7), 2) := by decide +kernel
theorem dX6_packetsNeeded_53 : decode cX6_packetsNeeded 53 = .ok (.putfield 89, 3) := by decide +kernel
theorem dX6_packetsNeeded_56 : decode cX6_packetsNeeded 56 = .ok (.aload_n 0, 1) := by decide +kernel
theorem dX6_packetsNeeded_57 : decode cX6_packetsNeeded 57 = .ok (.iload_n 1, 1) := by decide +kernel
theorem dX6_packetsNeeded_58 : decode cX6_packetsNeeded 58 = .ok (.invokevirtual 113, 3) := by decide +kernel
theorem dX6_packetsNeeded_61 : decode cX6_packetsNeeded 61 = .ok (.iinc 4 1, 3) := by decide +kernel
theorem dX6_packetsNeeded_64 : decode cX6_packetsNeeded 64 = .ok (.aload_n 0, 1) := by decide +kernel
theorem dX6_packetsNeeded_65 : decode cX6_packetsNeeded 65 = .ok (.getfield 89, 3) := by decide +kernel
theorem dX6_packetsNeeded_68 : decode cX6_packetsNeeded 68 = .ok (.bipush (-7), 2) := by decide +kernel
theorem dX6_packetsNeeded_70 : decode cX6_packetsNeeded 70 = .ok (.if_icmp .eq (-33), 3) := by decide +kernel
theorem dX6_packetsNeeded_73 : decode cX6_packetsNeeded 73 = .ok (.aload_n 0, 1) := by decide +kernel
theorem dX6_packetsNeeded_74 : decode cX6_packetsNeeded 74 = .ok (.getfield 22, 3) := by decide +kernel
theorem dX6_packetsNeeded_77 : decode cX6_packetsNeeded 77 = .ok (.aload_n 0, 1) := by decide +kernel
theorem dX6_packetsNeeded_78 : decode cX6_packetsNeeded 78 = .ok (.getfield 89, 3) := by decide +kernel
theorem dX6_packetsNeeded_81 : decode cX6_packetsNeeded 81 = .ok (.dup2, 1) := by decide +kernel
theorem dX6_packetsNeeded_82 : decode cX6_packetsNeeded 82 = .ok (.iaload, 1) := by decide +kernel
theorem dX6_packetsNeeded_83 : decode cX6_packetsNeeded 83 = .ok (.iconst 1, 1) := by decide +kernel
theorem dX6_packetsNeeded_84 : decode cX6_packetsNeeded 84 = .ok (.aload_n 0, 1) := by decide +kernel
theorem dX6_packetsNeeded_85 : decode cX6_packetsNeeded 85 = .ok (.getfield 86, 3) := by decide +kernel
theorem dX6_packetsNeeded_88 : decode cX6_packetsNeeded 88 = .ok (.ishl, 1) := by decide +kernel
theorem dX6_packetsNeeded_89 : decode cX6_packetsNeeded 89 = .ok (.iconst (-1), 1) := by decide +kernel
theorem dX6_packetsNeeded_90 : decode cX6_packetsNeeded 90 = .ok (.ixor, 1) := by decide +kernel
theorem dX6_packetsNeeded_91 : decode cX6_packetsNeeded 91 = .ok (.iand, 1) := by decide +kernel
theorem dX6_packetsNeeded_92 : decode cX6_packetsNeeded 92 = .ok (.iastore, 1) := by decide +kernel
theorem dX6_packetsNeeded_93 : decode cX6_packetsNeeded 93 = .ok (.goto (-56), 3) := by decide +kernel
theorem dX6_packetsNeeded_96 : decode cX6_packetsNeeded 96 = .ok (.aload_n 0, 1) := by decide +kernel
theorem dX6_packetsNeeded_97 : decode cX6_packetsNeeded 97 = .ok (.iload_n 3, 1) := by decide +kernel
theorem dX6_packetsNeeded_98 : decode cX6_packetsNeeded 98 = .ok (.putfield 50, 3) := by decide +kernel
theorem dX6_packetsNeeded_101 : decode cX6_packetsNeeded 101 = .ok (.aload_n 0, 1) := by decide +kernel
theorem dX6_packetsNeeded_102 : decode cX6_packetsNeeded 102 = .ok (.invokevirtual 134, 3) := by decide +kernel
theorem dX6_packetsNeeded_105 : decode cX6_packetsNeeded 105 = .ok (.ifCond .eq 8, 3) := by decide +kernel
theorem dX6_packetsNeeded_108 : decode cX6_packetsNeeded 108 = .ok (.iload 4, 2) := by decide +kernel
theorem dX6_packetsNeeded_110 : decode cX6_packetsNeeded 110 = .ok (.goto 5, 3) := by decide +kernel
theorem dX6_packetsNeeded_113 : decode cX6_packetsNeeded 113 = .ok (.bipush (-7), 2) := by decide +kernel
theorem dX6_packetsNeeded_115 : decode cX6_packetsNeeded 115 = .ok (.ireturn, 1) := by decide +kernel
set_option maxRecDepth 20000 in
theorem ggX6_combinations_X6_different : GoodIn wsX6_combinations wsX6_different := goodIn_r _ [5, 6, 7, 8, 4, 9, 10, 11, 12, 13, 14, 15, 16, 17, 18, 19, 20, 21, 22, 23, 24, 25, 26, 27, 28, 29, 30, 31, 32, 33] (by decide +kernel) (by decide +kernel)
set_option maxRecDepth 20000 in
theorem gX6_combinations_X6_different : GoodIn wsX6_combinations (wsV RX6 125 RX6 yX6_different wsX6_different) := goodIn_app (goodIn_of _ (by decide +kernel)) ggX6_combinations_X6_different
theorem dX6_combinations_0 : decode cX6_combinations 0 = .ok (.iconst 1, 1) := by decide +kernel
theorem dX6_combinations_1 : decode cX6_combinations 1 = .ok (.istore_n 2, 1) := by decide +kernel
theorem dX6_combinations_2 : decode cX6_combinations 2 = .ok (.iconst 0, 1) := by decide +kernel
theorem dX6_combinations_3 : decode cX6_combinations 3 = .ok (.istore_n 3, 1) := by decide +kernel
theorem dX6_combinations_4 : decode cX6_combinations 4 = .ok (.iload_n 3, 1) := by decide +kernel
theorem dX6_combinations_5 : decode cX6_combinations 5 = .ok (.iconst 4, 1) := by decide +kernel
theorem dX6_combinations_6 : decode cX6_combinations 6 = .ok (.if_icmp .ge 18, 3) := by decide +kernel
theorem dX6_combinations_9 : decode cX6_combinations 9 = .ok (.iload_n 2, 1) := by decide +kernel
theorem dX6_combinations_10 : decode cX6_combinations 10 = .ok (.aload_n 0, 1) := by decide +kernel
theorem dX6_combinations_11 : decode cX6_combinations 11 = .ok (.iload_n 1, 1) := by decide +kernel
theorem dX6_combinations_12 : decode cX6_combinations 12 = .ok (.iload_n 3, 1) := by decide +kernel
theorem dX6_combinations_13 : decode cX6_combinations 13 = .ok (.invokevirtual 125, 3) := by decide +kernel
theorem dX6_combinations_16 : decode cX6_combinations 16 = .ok (.imul, 1) := by decide +kernel
theorem dX6_combinations_17 : decode cX6_combinations 17 = .ok (.istore_n 2, 1) := by decide +kernel
theorem dX6_combinations_18 : decode cX6_combinations 18 = .ok (.iinc 3 1, 3) := by decide +kernel
theorem dX6_combinations_21 : decode cX6_combinations 21 = .ok (.goto (-17), 3) := by decide +kernel
theorem dX6_combinations_24 : decode cX6_combinations 24 = .ok (.iload_n 2, 1) := by decide +kernel
theorem dX6_combinations_25 : decode cX6_combinations 25 = .ok (.ireturn, 1) := by decide +kernel
set_option maxRecDepth 20000 in
theorem ggX6_fragmentAt_X6_placeOf : GoodIn wsX6_fragmentAt wsX6_placeOf := goodIn_r _ [5] (by decide +kernel) (by decide +kernel)
set_option maxRecDepth 20000 in
theorem gX6_fragmentAt_X6_placeOf : GoodIn wsX6_fragmentAt (va_wsS RX6 109 yX6_placeOf wsX6_placeOf) := goodIn_app (goodIn_of _ (by decide +kernel)) ggX6_fragmentAt_X6_placeOf
theorem dX6_fragmentAt_0 : decode cX6_fragmentAt 0 = .ok (.iload_n 3, 1) := by decide +kernel
theorem dX6_fragmentAt_1 : decode cX6_fragmentAt 1 = .ok (.istore 4, 2) := by decide +kernel
theorem dX6_fragmentAt_3 : decode cX6_fragmentAt 3 = .ok (.iconst 0, 1) := by decide +kernel
theorem dX6_fragmentAt_4 : decode cX6_fragmentAt 4 = .ok (.istore 5, 2) := by decide +kernel
theorem dX6_fragmentAt_6 : decode cX6_fragmentAt 6 = .ok (.iload 5, 2) := by decide +kernel
theorem dX6_fragmentAt_8 : decode cX6_fragmentAt 8 = .ok (.bipush 32, 2) := by decide +kernel
theorem dX6_fragmentAt_10 : decode cX6_fragmentAt 10 = .ok (.if_icmp .ge 35, 3) := by decide +kernel
theorem dX6_fragmentAt_13 : decode cX6_fragmentAt 13 = .ok (.aload_n 0, 1) := by decide +kernel
theorem dX6_fragmentAt_14 : decode cX6_fragmentAt 14 = .ok (.getfield 19, 3) := by decide +kernel
theorem dX6_fragmentAt_17 : decode cX6_fragmentAt 17 = .ok (.iload_n 1, 1) := by decide +kernel
theorem dX6_fragmentAt_18 : decode cX6_fragmentAt 18 = .ok (.iload_n 2, 1) := by decide +kernel
theorem dX6_fragmentAt_19 : decode cX6_fragmentAt 19 = .ok (.iload 5, 2) := by decide +kernel
theorem dX6_fragmentAt_21 : decode cX6_fragmentAt 21 = .ok (.invokestatic 109, 3) := by decide +kernel
theorem dX6_fragmentAt_24 : decode cX6_fragmentAt 24 = .ok (.iaload, 1) := by decide +kernel
theorem dX6_fragmentAt_25 : decode cX6_fragmentAt 25 = .ok (.ifCond .le 14, 3) := by decide +kernel
theorem dX6_fragmentAt_28 : decode cX6_fragmentAt 28 = .ok (.iload 4, 2) := by decide +kernel
theorem dX6_fragmentAt_30 : decode cX6_fragmentAt 30 = .ok (.ifCond .ne 6, 3) := by decide +kernel
theorem dX6_fragmentAt_33 : decode cX6_fragmentAt 33 = .ok (.iload 5, 2) := by decide +kernel
theorem dX6_fragmentAt_35 : decode cX6_fragmentAt 35 = .ok (.ireturn, 1) := by decide +kernel
theorem dX6_fragmentAt_36 : decode cX6_fragmentAt 36 = .ok (.iinc 4 (-1), 3) := by decide +kernel
theorem dX6_fragmentAt_39 : decode cX6_fragmentAt 39 = .ok (.iinc 5 1, 3) := by decide +kernel
theorem dX6_fragmentAt_42 : decode cX6_fragmentAt 42 = .ok (.goto (-36), 3) := by decide +kernel
theorem dX6_fragmentAt_45 : decode cX6_fragmentAt 45 = .ok (.bipush (-7), 2) := by decide +kernel
theorem dX6_fragmentAt_47 : decode cX6_fragmentAt 47 = .ok (.ireturn, 1) := by decide +kernel
set_option maxRecDepth 20000 in
theorem ggX6_findWords_X6_combinations : GoodIn wsX6_findWords wsX6_combinations := goodIn_r _ [7, 8, 9, 10, 6, 11, 12, 13, 14, 15, 20, 21, 22, 23, 24, 25, 26, 27, 28, 29, 30, 31, 32, 33, 34, 35, 36, 37, 38, 39, 40, 41, 42, 43] (by decide +kernel) (by decide +kernel)
set_option maxRecDepth 20000 in
theorem gX6_findWords_X6_combinations : GoodIn wsX6_findWords (wsV RX6 138 RX6 yX6_combinations wsX6_combinations) := goodIn_app (goodIn_of _ (by decide +kernel)) ggX6_findWords_X6_combinations
set_option maxRecDepth 20000 in
theorem ggX6_findWords_X6_different : GoodIn wsX6_findWords wsX6_different := goodIn_r _ [11, 12, 13, 14, 6, 15, 20, 21, 22, 23, 24, 25, 26, 27, 28, 29, 30, 31, 32, 33, 34, 35, 36, 37, 38, 39, 40, 41, 42, 43] (by decide +kernel) (by decide +kernel)
set_option maxRecDepth 20000 in
theorem gX6_findWords_X6_different : GoodIn wsX6_findWords (wsV RX6 125 RX6 yX6_different wsX6_different) := goodIn_app (goodIn_of _ (by decide +kernel)) ggX6_findWords_X6_different
set_option maxRecDepth 20000 in
theorem ggX6_findWords_X6_fragmentAt : GoodIn wsX6_findWords wsX6_fragmentAt := goodIn_r _ [19, 12, 13, 14, 6, 15, 20, 21, 22, 23, 24, 25, 26, 27, 28, 29, 30, 31, 32, 33, 34, 35, 36, 37, 38, 39, 40, 41, 42, 43] (by decide +kernel) (by decide +kernel)
set_option maxRecDepth 20000 in
theorem gX6_findWords_X6_fragmentAt : GoodIn wsX6_findWords (wsV RX6 144 RX6 yX6_fragmentAt wsX6_fragmentAt) := goodIn_app (goodIn_of _ (by decide +kernel)) ggX6_findWords_X6_fragmentAt
theorem dX6_findWords_0 : decode cX6_findWords 0 = .ok (.aload_n 0, 1) := by decide +kernel
theorem dX6_findWords_1 : decode cX6_findWords 1 = .ok (.aload_n 0, 1) := by decide +kernel
theorem dX6_findWords_2 : decode cX6_findWords 2 = .ok (.iload_n 1, 1) := by decide +kernel
theorem dX6_findWords_3 : decode cX6_findWords 3 = .ok (.invokevirtual 138, 3) := by decide +kernel
theorem dX6_findWords_6 : decode cX6_findWords 6 = .ok (.putfield 141, 3) := by decide +kernel
theorem dX6_findWords_9 : decode cX6_findWords 9 = .ok (.iconst 0, 1) := by decide +kernel
theorem dX6_findWords_10 : decode cX6_findWords 10 = .ok (.istore_n 2, 1) := by decide +kernel
theorem dX6_findWords_11 : decode cX6_findWords 11 = .ok (.iload_n 2, 1) := by decide +kernel
theorem dX6_findWords_12 : decode cX6_findWords 12 = .ok (.aload_n 0, 1) := by decide +kernel
theorem dX6_findWords_13 : decode cX6_findWords 13 = .ok (.getfield 141, 3) := by decide +kernel
theorem dX6_findWords_16 : decode cX6_findWords 16 = .ok (.if_icmp .ge 72, 3) := by decide +kernel
theorem dX6_findWords_19 : decode cX6_findWords 19 = .ok (.iload_n 2, 1) := by decide +kernel
theorem dX6_findWords_20 : decode cX6_findWords 20 = .ok (.istore_n 3, 1) := by decide +kernel
theorem dX6_findWords_21 : decode cX6_findWords 21 = .ok (.iconst 0, 1) := by decide +kernel
theorem dX6_findWords_22 : decode cX6_findWords 22 = .ok (.istore 4, 2) := by decide +kernel
theorem dX6_findWords_24 : decode cX6_findWords 24 = .ok (.iconst 0, 1) := by decide +kernel
theorem dX6_findWords_25 : decode cX6_findWords 25 = .ok (.istore 5, 2) := by decide +kernel
theorem dX6_findWords_27 : decode cX6_findWords 27 = .ok (.iload 5, 2) := by decide +kernel
theorem dX6_findWords_29 : decode cX6_findWords 29 = .ok (.iconst 4, 1) := by decide +kernel
theorem dX6_findWords_30 : decode cX6_findWords 30 = .ok (.if_icmp .ge 44, 3) := by decide +kernel
theorem dX6_findWords_33 : decode cX6_findWords 33 = .ok (.aload_n 0, 1) := by decide +kernel
theorem dX6_findWords_34 : decode cX6_findWords 34 = .ok (.iload_n 1, 1) := by decide +kernel
theorem dX6_findWords_35 : decode cX6_findWords 35 = .ok (.iload 5, 2) := by decide +kernel
theorem dX6_findWords_37 : decode cX6_findWords 37 = .ok (.invokevirtual 125, 3) := by decide +kernel
theorem dX6_findWords_40 : decode cX6_findWords 40 = .ok (.istore 6, 2) := by decide +kernel
theorem dX6_findWords_42 : decode cX6_findWords 42 = .ok (.iload 4, 2) := by decide +kernel
theorem dX6_findWords_44 : decode cX6_findWords 44 = .ok (.aload_n 0, 1) := by decide +kernel
theorem dX6_findWords_45 : decode cX6_findWords 45 = .ok (.iload_n 1, 1) := by decide +kernel
theorem dX6_findWords_46 : decode cX6_findWords 46 = .ok (.iload 5, 2) := by decide +kernel
theorem dX6_findWords_48 : decode cX6_findWords 48 = .ok (.iload_n 3, 1) := by decide +kernel
theorem dX6_findWords_49 : decode cX6_findWords 49 = .ok (.iload 6, 2) := by decide +kernel
theorem dX6_findWords_51 : decode cX6_findWords 51 = .ok (.irem, 1) := by decide +kernel
theorem dX6_findWords_52 : decode cX6_findWords 52 = .ok (.invokevirtual 144, 3) := by decide +kernel
theorem dX6_findWords_55 : decode cX6_findWords 55 = .ok (.iconst 5, 1) := by decide +kernel
theorem dX6_findWords_56 : decode cX6_findWords 56 = .ok (.iload 5, 2) := by decide +kernel
theorem dX6_findWords_58 : decode cX6_findWords 58 = .ok (.imul, 1) := by decide +kernel
theorem dX6_findWords_59 : decode cX6_findWords 59 = .ok (.ishl, 1) := by decide +kernel
theorem dX6_findWords_60 : decode cX6_findWords 60 = .ok (.ior, 1) := by decide +kernel
theorem dX6_findWords_61 : decode cX6_findWords 61 = .ok (.istore 4, 2) := by decide +kernel
theorem dX6_findWords_63 : decode cX6_findWords 63 = .ok (.iload_n 3, 1) := by decide +kernel
theorem dX6_findWords_64 : decode cX6_findWords 64 = .ok (.iload 6, 2) := by decide +kernel
theorem dX6_findWords_66 : decode cX6_findWords 66 = .ok (.idiv, 1) := by decide +kernel
theorem dX6_findWords_67 : decode cX6_findWords 67 = .ok (.istore_n 3, 1) := by decide +kernel
theorem dX6_findWords_68 : decode cX6_findWords 68 = .ok (.iinc 5 1, 3) := by decide +kernel
theorem dX6_findWords_71 : decode cX6_findWords 71 = .ok (.goto (-44), 3) := by decide +kernel
theorem dX6_findWords_74 : decode cX6_findWords 74 = .ok (.aload_n 0, 1) := by decide +kernel
theorem dX6_findWords_75 : decode cX6_findWords 75 = .ok (.getfield 43, 3) := by decide +kernel
theorem dX6_findWords_78 : decode cX6_findWords 78 = .ok (.iload_n 2, 1) := by decide +kernel
theorem dX6_findWords_79 : decode cX6_findWords 79 = .ok (.iload 4, 2) := by decide +kernel
theorem dX6_findWords_81 : decode cX6_findWords 81 = .ok (.iastore, 1) := by decide +kernel
theorem dX6_findWords_82 : decode cX6_findWords 82 = .ok (.iinc 2 1, 3) := by decide +kernel
theorem dX6_findWords_85 : decode cX6_findWords 85 = .ok (.goto (-74), 3) := by decide +kernel
theorem dX6_findWords_88 : decode cX6_findWords 88 = .ok (.return_, 1) := by decide +kernel
set_option maxRecDepth 20000 in
theorem ggX6_isWord_X6_digestOf : GoodIn wsX6_isWord wsX6_digestOf := goodIn_r _ [4] (by decide +kernel) (by decide +kernel)
set_option maxRecDepth 20000 in
theorem gX6_isWord_X6_digestOf : GoodIn wsX6_isWord (va_wsS RX6 70 yX6_digestOf wsX6_digestOf) := goodIn_app (goodIn_of _ (by decide +kernel)) ggX6_isWord_X6_digestOf
theorem dX6_isWord_0 : decode cX6_isWord 0 = .ok (.iload_n 0, 1) := by decide +kernel
theorem dX6_isWord_1 : decode cX6_isWord 1 = .ok (.sipush 256, 3) := by decide +kernel
theorem dX6_isWord_4 : decode cX6_isWord 4 = .ok (.idiv, 1) := by decide +kernel
theorem dX6_isWord_5 : decode cX6_isWord 5 = .ok (.invokestatic 70, 3) := by decide +kernel
theorem dX6_isWord_8 : decode cX6_isWord 8 = .ok (.iload_n 0, 1) := by decide +kernel
theorem dX6_isWord_9 : decode cX6_isWord 9 = .ok (.sipush 256, 3) := by decide +kernel
theorem dX6_isWord_12 : decode cX6_isWord 12 = .ok (.irem, 1) := by decide +kernel
theorem dX6_isWord_13 : decode cX6_isWord 13 = .ok (.if_icmp .ne 7, 3) := by decide +kernel
theorem dX6_isWord_16 : decode cX6_isWord 16 = .ok (.iconst 1, 1) := by decide +kernel
theorem dX6_isWord_17 : decode cX6_isWord 17 = .ok (.goto 4, 3) := by decide +kernel
theorem dX6_isWord_20 : decode cX6_isWord 20 = .ok (.iconst 0, 1) := by decide +kernel
theorem dX6_isWord_21 : decode cX6_isWord 21 = .ok (.ireturn, 1) := by decide +kernel
theorem dX6_adds_0 : decode cX6_adds 0 = .ok (.aload_n 0, 1) := by decide +kernel
theorem dX6_adds_1 : decode cX6_adds 1 = .ok (.getfield 147, 3) := by decide +kernel
theorem dX6_adds_4 : decode cX6_adds 4 = .ok (.bipush 100, 2) := by decide +kernel
theorem dX6_adds_6 : decode cX6_adds 6 = .ok (.if_icmp .ne 5, 3) := by decide +kernel
theorem dX6_adds_9 : decode cX6_adds 9 = .ok (.iconst 0, 1) := by decide +kernel
theorem dX6_adds_10 : decode cX6_adds 10 = .ok (.ireturn, 1) := by decide +kernel
theorem dX6_adds_11 : decode cX6_adds 11 = .ok (.aload_n 0, 1) := by decide +kernel
theorem dX6_adds_12 : decode cX6_adds 12 = .ok (.getfield 147, 3) := by decide +kernel
theorem dX6_adds_15 : decode cX6_adds 15 = .ok (.istore 4, 2) := by decide +kernel
theorem dX6_adds_17 : decode cX6_adds 17 = .ok (.iload 4, 2) := by decide +kernel
theorem dX6_adds_19 : decode cX6_adds 19 = .ok (.ifCond .le 80, 3) := by decide +kernel
theorem dX6_adds_22 : decode cX6_adds 22 = .ok (.aload_n 0, 1) := by decide +kernel
theorem dX6_adds_23 : decode cX6_adds 23 = .ok (.getfield 37, 3) := by decide +kernel
theorem dX6_adds_26 : decode cX6_adds 26 = .ok (.iload 4, 2) := by decide +kernel
theorem dX6_adds_28 : decode cX6_adds 28 = .ok (.iconst 1, 1) := by decide +kernel
theorem dX6_adds_29 : decode cX6_adds 29 = .ok (.isub, 1) := by decide +kernel
theorem dX6_adds_30 : decode cX6_adds 30 = .ok (.iaload, 1) := by decide +kernel
theorem dX6_adds_31 : decode cX6_adds 31 = .ok (.iload_n 2, 1) := by decide +kernel
theorem dX6_adds_32 : decode cX6_adds 32 = .ok (.if_icmp .ne 67, 3) := by decide +kernel
theorem dX6_adds_35 : decode cX6_adds 35 = .ok (.aload_n 0, 1) := by decide +kernel
theorem dX6_adds_36 : decode cX6_adds 36 = .ok (.getfield 40, 3) := by decide +kernel
theorem dX6_adds_39 : decode cX6_adds 39 = .ok (.iload 4, 2) := by decide +kernel
theorem dX6_adds_41 : decode cX6_adds 41 = .ok (.iconst 1, 1) := by decide +kernel
theorem dX6_adds_42 : decode cX6_adds 42 = .ok (.isub, 1) := by decide +kernel
theorem dX6_adds_43 : decode cX6_adds 43 = .ok (.iaload, 1) := by decide +kernel
theorem dX6_adds_44 : decode cX6_adds 44 = .ok (.iload_n 3, 1) := by decide +kernel
theorem dX6_adds_45 : decode cX6_adds 45 = .ok (.if_icmp .ne 54, 3) := by decide +kernel
theorem dX6_adds_48 : decode cX6_adds 48 = .ok (.aload_n 0, 1) := by decide +kernel
theorem dX6_adds_49 : decode cX6_adds 49 = .ok (.getfield 34, 3) := by decide +kernel
theorem dX6_adds_52 : decode cX6_adds 52 = .ok (.iload 4, 2) := by decide +kernel
theorem dX6_adds_54 : decode cX6_adds 54 = .ok (.iconst 1, 1) := by decide +kernel
theorem dX6_adds_55 : decode cX6_adds 55 = .ok (.isub, 1) := by decide +kernel
theorem dX6_adds_56 : decode cX6_adds 56 = .ok (.iaload, 1) := by decide +kernel
theorem dX6_adds_57 : decode cX6_adds 57 = .ok (.iload_n 1, 1) := by decide +kernel
theorem dX6_adds_58 : decode cX6_adds 58 = .ok (.if_icmp .le 41, 3) := by decide +kernel
theorem dX6_adds_61 : decode cX6_adds 61 = .ok (.aload_n 0, 1) := by decide +kernel
theorem dX6_adds_62 : decode cX6_adds 62 = .ok (.getfield 34, 3) := by decide +kernel
theorem dX6_adds_65 : decode cX6_adds 65 = .ok (.iload 4, 2) := by decide +kernel
theorem dX6_adds_67 : decode cX6_adds 67 = .ok (.aload_n 0, 1) := by decide +kernel
theorem dX6_adds_68 : decode cX6_adds 68 = .ok (.getfield 34, 3) := by decide +kernel
theorem dX6_adds_71 : decode cX6_adds 71 = .ok (.iload 4, 2) := by decide +kernel
theorem dX6_adds_73 : decode cX6_adds 73 = .ok (.iconst 1, 1) := by decide +kernel
theorem dX6_adds_74 : decode cX6_adds 74 = .ok (.isub, 1) := by decide +kernel
theorem dX6_adds_75 : decode cX6_adds 75 = .ok (.iaload, 1) := by decide +kernel
theorem dX6_adds_76 : decode cX6_adds 76 = .ok (.iastore, 1) := by decide +kernel
theorem dX6_adds_77 : decode cX6_adds 77 = .ok (.aload_n 0, 1) := by decide +kernel
theorem dX6_adds_78 : decode cX6_adds 78 = .ok (.getfield 37, 3) := by decide +kernel
theorem dX6_adds_81 : decode cX6_adds 81 = .ok (.iload 4, 2) := by decide +kernel
theorem dX6_adds_83 : decode cX6_adds 83 = .ok (.iload_n 2, 1) := by decide +kernel
theorem dX6_adds_84 : decode cX6_adds 84 = .ok (.iastore, 1) := by decide +kernel
theorem dX6_adds_85 : decode cX6_adds 85 = .ok (.aload_n 0, 1) := by decide +kernel
theorem dX6_adds_86 : decode cX6_adds 86 = .ok (.getfield 40, 3) := by decide +kernel
theorem dX6_adds_89 : decode cX6_adds 89 = .ok (.iload 4, 2) := by decide +kernel
theorem dX6_adds_91 : decode cX6_adds 91 = .ok (.iload_n 3, 1) := by decide +kernel
theorem dX6_adds_92 : decode cX6_adds 92 = .ok (.iastore, 1) := by decide +kernel
theorem dX6_adds_93 : decode cX6_adds 93 = .ok (.iinc 4 (-1), 3) := by decide +kernel
theorem dX6_adds_96 : decode cX6_adds 96 = .ok (.goto (-79), 3) := by decide +kernel
theorem dX6_adds_99 : decode cX6_adds 99 = .ok (.aload_n 0, 1) := by decide +kernel
theorem dX6_adds_100 : decode cX6_adds 100 = .ok (.getfield 34, 3) := by decide +kernel
theorem dX6_adds_103 : decode cX6_adds 103 = .ok (.iload 4, 2) := by decide +kernel
theorem dX6_adds_105 : decode cX6_adds 105 = .ok (.iload_n 1, 1) := by decide +kernel
theorem dX6_adds_106 : decode cX6_adds 106 = .ok (.iastore, 1) := by decide +kernel
theorem dX6_adds_107 : decode cX6_adds 107 = .ok (.aload_n 0, 1) := by decide +kernel
theorem dX6_adds_108 : decode cX6_adds 108 = .ok (.getfield 37, 3) := by decide +kernel
theorem dX6_adds_111 : decode cX6_adds 111 = .ok (.iload 4, 2) := by decide +kernel
theorem dX6_adds_113 : decode cX6_adds 113 = .ok (.iload_n 2, 1) := by decide +kernel
theorem dX6_adds_114 : decode cX6_adds 114 = .ok (.iastore, 1) := by decide +kernel
theorem dX6_adds_115 : decode cX6_adds 115 = .ok (.aload_n 0, 1) := by decide +kernel
theorem dX6_adds_116 : decode cX6_adds 116 = .ok (.getfield 40, 3) := by decide +kernel
theorem dX6_adds_119 : decode cX6_adds 119 = .ok (.iload 4, 2) := by decide +kernel
theorem dX6_adds_121 : decode cX6_adds 121 = .ok (.iload_n 3, 1) := by decide +kernel
theorem dX6_adds_122 : decode cX6_adds 122 = .ok (.iastore, 1) := by decide +kernel
theorem dX6_adds_123 : decode cX6_adds 123 = .ok (.aload_n 0, 1) := by decide +kernel
theorem dX6_adds_124 : decode cX6_adds 124 = .ok (.dup, 1) := by decide +kernel
theorem dX6_adds_125 : decode cX6_adds 125 = .ok (.getfield 147, 3) := by decide +kernel
theorem dX6_adds_128 : decode cX6_adds 128 = .ok (.iconst 1, 1) := by decide +kernel
theorem dX6_adds_129 : decode cX6_adds 129 = .ok (.iadd, 1) := by decide +kernel
theorem dX6_adds_130 : decode cX6_adds 130 = .ok (.putfield 147, 3) := by decide +kernel
theorem dX6_adds_133 : decode cX6_adds 133 = .ok (.iconst 1, 1) := by decide +kernel
theorem dX6_adds_134 : decode cX6_adds 134 = .ok (.ireturn, 1) := by decide +kernel
set_option maxRecDepth 20000 in
theorem ggX6_findNodes_X6_wordOf : GoodIn wsX6_findNodes wsX6_wordOf := goodIn_r _ [7, 8, 9, 6, 10] (by decide +kernel) (by decide +kernel)
set_option maxRecDepth 20000 in
theorem gX6_findNodes_X6_wordOf : GoodIn wsX6_findNodes (va_wsS RX6 74 yX6_wordOf wsX6_wordOf) := goodIn_app (goodIn_of _ (by decide +kernel)) ggX6_findNodes_X6_wordOf
set_option maxRecDepth 20000 in
theorem ggX6_findNodes_X6_isWord : GoodIn wsX6_findNodes wsX6_isWord := goodIn_r _ [13, 8, 9, 6, 10] (by decide +kernel) (by decide +kernel)
set_option maxRecDepth 20000 in
theorem gX6_findNodes_X6_isWord : GoodIn wsX6_findNodes (va_wsS RX6 150 yX6_isWord wsX6_isWord) := goodIn_app (goodIn_of _ (by decide +kernel)) ggX6_findNodes_X6_isWord
set_option maxRecDepth 20000 in
theorem ggX6_findNodes_X6_adds : GoodIn wsX6_findNodes wsX6_adds := goodIn_r _ [17, 18, 19, 20, 1, 21, 22, 23, 24, 25, 26, 27, 28, 29, 30, 31, 32, 33, 34, 35, 36, 37, 38, 39, 40, 41, 42, 43, 44] (by decide +kernel) (by decide +kernel)
set_option maxRecDepth 20000 in
theorem gX6_findNodes_X6_adds : GoodIn wsX6_findNodes (wsV RX6 153 RX6 yX6_adds wsX6_adds) := goodIn_app (goodIn_of _ (by decide +kernel)) ggX6_findNodes_X6_adds
theorem dX6_findNodes_0 : decode cX6_findNodes 0 = .ok (.iload_n 2, 1) := by decide +kernel
theorem dX6_findNodes_1 : decode cX6_findNodes 1 = .ok (.bipush (-7), 2) := by decide +kernel
theorem dX6_findNodes_3 : decode cX6_findNodes 3 = .ok (.if_icmp .ne 7, 3) := by decide +kernel
theorem dX6_findNodes_6 : decode cX6_findNodes 6 = .ok (.iconst 0, 1) := by decide +kernel
theorem dX6_findNodes_7 : decode cX6_findNodes 7 = .ok (.goto 12, 3) := by decide +kernel
theorem dX6_findNodes_10 : decode cX6_findNodes 10 = .ok (.aload_n 0, 1) := by decide +kernel
theorem dX6_findNodes_11 : decode cX6_findNodes 11 = .ok (.getfield 34, 3) := by decide +kernel
theorem dX6_findNodes_14 : decode cX6_findNodes 14 = .ok (.iload_n 2, 1) := by decide +kernel
theorem dX6_findNodes_15 : decode cX6_findNodes 15 = .ok (.iaload, 1) := by decide +kernel
theorem dX6_findNodes_16 : decode cX6_findNodes 16 = .ok (.invokestatic 74, 3) := by decide +kernel
theorem dX6_findNodes_19 : decode cX6_findNodes 19 = .ok (.istore_n 3, 1) := by decide +kernel
theorem dX6_findNodes_20 : decode cX6_findNodes 20 = .ok (.iconst 0, 1) := by decide +kernel
theorem dX6_findNodes_21 : decode cX6_findNodes 21 = .ok (.istore 4, 2) := by decide +kernel
theorem dX6_findNodes_23 : decode cX6_findNodes 23 = .ok (.iload 4, 2) := by decide +kernel
theorem dX6_findNodes_25 : decode cX6_findNodes 25 = .ok (.aload_n 0, 1) := by decide +kernel
theorem dX6_findNodes_26 : decode cX6_findNodes 26 = .ok (.getfield 141, 3) := by decide +kernel
theorem dX6_findNodes_29 : decode cX6_findNodes 29 = .ok (.if_icmp .ge 45, 3) := by decide +kernel
theorem dX6_findNodes_32 : decode cX6_findNodes 32 = .ok (.aload_n 0, 1) := by decide +kernel
theorem dX6_findNodes_33 : decode cX6_findNodes 33 = .ok (.getfield 43, 3) := by decide +kernel
theorem dX6_findNodes_36 : decode cX6_findNodes 36 = .ok (.iload 4, 2) := by decide +kernel
theorem dX6_findNodes_38 : decode cX6_findNodes 38 = .ok (.iaload, 1) := by decide +kernel
theorem dX6_findNodes_39 : decode cX6_findNodes 39 = .ok (.iload_n 3, 1) := by decide +kernel
theorem dX6_findNodes_40 : decode cX6_findNodes 40 = .ok (.ixor, 1) := by decide +kernel
theorem dX6_findNodes_41 : decode cX6_findNodes 41 = .ok (.istore 5, 2) := by decide +kernel
theorem dX6_findNodes_43 : decode cX6_findNodes 43 = .ok (.iload 5, 2) := by decide +kernel
theorem dX6_findNodes_45 : decode cX6_findNodes 45 = .ok (.invokestatic 150, 3) := by decide +kernel
theorem dX6_findNodes_48 : decode cX6_findNodes 48 = .ok (.ifCond .eq 20, 3) := by decide +kernel
theorem dX6_findNodes_51 : decode cX6_findNodes 51 = .ok (.aload_n 0, 1) := by decide +kernel
theorem dX6_findNodes_52 : decode cX6_findNodes 52 = .ok (.iload 5, 2) := by decide +kernel
theorem dX6_findNodes_54 : decode cX6_findNodes 54 = .ok (.sipush 256, 3) := by decide +kernel
theorem dX6_findNodes_57 : decode cX6_findNodes 57 = .ok (.idiv, 1) := by decide +kernel
theorem dX6_findNodes_58 : decode cX6_findNodes 58 = .ok (.iload_n 1, 1) := by decide +kernel
theorem dX6_findNodes_59 : decode cX6_findNodes 59 = .ok (.iload_n 2, 1) := by decide +kernel
theorem dX6_findNodes_60 : decode cX6_findNodes 60 = .ok (.invokevirtual 153, 3) := by decide +kernel
theorem dX6_findNodes_63 : decode cX6_findNodes 63 = .ok (.ifCond .ne 5, 3) := by decide +kernel
theorem dX6_findNodes_66 : decode cX6_findNodes 66 = .ok (.iconst 0, 1) := by decide +kernel
theorem dX6_findNodes_67 : decode cX6_findNodes 67 = .ok (.ireturn, 1) := by decide +kernel
theorem dX6_findNodes_68 : decode cX6_findNodes 68 = .ok (.iinc 4 1, 3) := by decide +kernel
theorem dX6_findNodes_71 : decode cX6_findNodes 71 = .ok (.goto (-48), 3) := by decide +kernel
theorem dX6_findNodes_74 : decode cX6_findNodes 74 = .ok (.iconst 1, 1) := by decide +kernel
theorem dX6_findNodes_75 : decode cX6_findNodes 75 = .ok (.ireturn, 1) := by decide +kernel
set_option maxRecDepth 20000 in
theorem ggX6_findDistance_X6_combinations : GoodIn wsX6_findDistance wsX6_combinations := goodIn_r _ [7, 8, 9, 10, 6, 11, 12, 13, 14, 15, 45, 46, 47, 48, 49, 50, 51, 52, 53, 54, 55, 56, 57, 58, 59, 60, 61, 62, 63, 64, 65, 66, 67, 68] (by decide +kernel) (by decide +kernel)
set_option maxRecDepth 20000 in
theorem gX6_findDistance_X6_combinations : GoodIn wsX6_findDistance (wsV RX6 138 RX6 yX6_combinations wsX6_combinations) := goodIn_app (goodIn_of _ (by decide +kernel)) ggX6_findDistance_X6_combinations
set_option maxRecDepth 20000 in
theorem ggX6_findDistance_X6_findWords : GoodIn wsX6_findDistance wsX6_findWords := goodIn_r _ [19, 20, 21, 3, 4, 5, 6, 7, 8, 9, 10, 11, 12, 13, 14, 15, 22, 23, 24, 25, 45, 46, 47, 48, 49, 50, 51, 52, 53, 54, 55, 56, 57, 58, 59, 60, 61, 62, 63, 64, 65, 66, 67, 68] (by decide +kernel) (by decide +kernel)
set_option maxRecDepth 20000 in
theorem gX6_findDistance_X6_findWords : GoodIn wsX6_findDistance (wsV RX6 156 RX6 yX6_findWords wsX6_findWords) := goodIn_app (goodIn_of _ (by decide +kernel)) ggX6_findDistance_X6_findWords
set_option maxRecDepth 20000 in
theorem ggX6_findDistance_X6_findNodes : GoodIn wsX6_findDistance wsX6_findNodes := goodIn_r _ [29, 30, 20, 21, 31, 32, 6, 33, 34, 35, 36, 37, 38, 39, 40, 41, 42, 43, 1, 2, 44, 45, 46, 47, 48, 49, 50, 51, 52, 53, 54, 55, 56, 57, 58, 59, 60, 61, 62, 63, 64, 65, 66, 67, 68] (by decide +kernel) (by decide +kernel)
set_option maxRecDepth 20000 in
theorem gX6_findDistance_X6_findNodes : GoodIn wsX6_findDistance (wsV RX6 159 RX6 yX6_findNodes wsX6_findNodes) := goodIn_app (goodIn_of _ (by decide +kernel)) ggX6_findDistance_X6_findNodes
theorem dX6_findDistance_0 : decode cX6_findDistance 0 = .ok (.aload_n 0, 1) := by decide +kernel
theorem dX6_findDistance_1 : decode cX6_findDistance 1 = .ok (.iload_n 1, 1) := by decide +kernel
theorem dX6_findDistance_2 : decode cX6_findDistance 2 = .ok (.invokevirtual 138, 3) := by decide +kernel
theorem dX6_findDistance_5 : decode cX6_findDistance 5 = .ok (.sipush 4096, 3) := by decide +kernel
theorem dX6_findDistance_8 : decode cX6_findDistance 8 = .ok (.if_icmp .le 5, 3) := by decide +kernel
theorem dX6_findDistance_11 : decode cX6_findDistance 11 = .ok (.iconst 0, 1) := by decide +kernel
theorem dX6_findDistance_12 : decode cX6_findDistance 12 = .ok (.ireturn, 1) := by decide +kernel
theorem dX6_findDistance_13 : decode cX6_findDistance 13 = .ok (.aload_n 0, 1) := by decide +kernel
theorem dX6_findDistance_14 : decode cX6_findDistance 14 = .ok (.iload_n 1, 1) := by decide +kernel
theorem dX6_findDistance_15 : decode cX6_findDistance 15 = .ok (.invokevirtual 156, 3) := by decide +kernel
theorem dX6_findDistance_18 : decode cX6_findDistance 18 = .ok (.iload_n 1, 1) := by decide +kernel
theorem dX6_findDistance_19 : decode cX6_findDistance 19 = .ok (.ifCond .ne 11, 3) := by decide +kernel
theorem dX6_findDistance_22 : decode cX6_findDistance 22 = .ok (.aload_n 0, 1) := by decide +kernel
theorem dX6_findDistance_23 : decode cX6_findDistance 23 = .ok (.iconst 0, 1) := by decide +kernel
theorem dX6_findDistance_24 : decode cX6_findDistance 24 = .ok (.bipush (-7), 2) := by decide +kernel
theorem dX6_findDistance_26 : decode cX6_findDistance 26 = .ok (.invokevirtual 159, 3) := by decide +kernel
theorem dX6_findDistance_29 : decode cX6_findDistance 29 = .ok (.ireturn, 1) := by decide +kernel
theorem dX6_findDistance_30 : decode cX6_findDistance 30 = .ok (.aload_n 0, 1) := by decide +kernel
theorem dX6_findDistance_31 : decode cX6_findDistance 31 = .ok (.getfield 147, 3) := by decide +kernel
theorem dX6_findDistance_34 : decode cX6_findDistance 34 = .ok (.istore_n 2, 1) := by decide +kernel
theorem dX6_findDistance_35 : decode cX6_findDistance 35 = .ok (.iconst 0, 1) := by decide +kernel
theorem dX6_findDistance_36 : decode cX6_findDistance 36 = .ok (.istore_n 3, 1) := by decide +kernel
theorem dX6_findDistance_37 : decode cX6_findDistance 37 = .ok (.iload_n 3, 1) := by decide +kernel
theorem dX6_findDistance_38 : decode cX6_findDistance 38 = .ok (.iload_n 2, 1) := by decide +kernel
theorem dX6_findDistance_39 : decode cX6_findDistance 39 = .ok (.if_icmp .ge 32, 3) := by decide +kernel
theorem dX6_findDistance_42 : decode cX6_findDistance 42 = .ok (.aload_n 0, 1) := by decide +kernel
theorem dX6_findDistance_43 : decode cX6_findDistance 43 = .ok (.getfield 37, 3) := by decide +kernel
theorem dX6_findDistance_46 : decode cX6_findDistance 46 = .ok (.iload_n 3, 1) := by decide +kernel
theorem dX6_findDistance_47 : decode cX6_findDistance 47 = .ok (.iaload, 1) := by decide +kernel
theorem dX6_findDistance_48 : decode cX6_findDistance 48 = .ok (.iload_n 1, 1) := by decide +kernel
theorem dX6_findDistance_49 : decode cX6_findDistance 49 = .ok (.iconst 1, 1) := by decide +kernel
theorem dX6_findDistance_50 : decode cX6_findDistance 50 = .ok (.isub, 1) := by decide +kernel
theorem dX6_findDistance_51 : decode cX6_findDistance 51 = .ok (.if_icmp .ne 14, 3) := by decide +kernel
theorem dX6_findDistance_54 : decode cX6_findDistance 54 = .ok (.aload_n 0, 1) := by decide +kernel
theorem dX6_findDistance_55 : decode cX6_findDistance 55 = .ok (.iload_n 1, 1) := by decide +kernel
theorem dX6_findDistance_56 : decode cX6_findDistance 56 = .ok (.iload_n 3, 1) := by decide +kernel
theorem dX6_findDistance_57 : decode cX6_findDistance 57 = .ok (.invokevirtual 159, 3) := by decide +kernel
theorem dX6_findDistance_60 : decode cX6_findDistance 60 = .ok (.ifCond .ne 5, 3) := by decide +kernel
theorem dX6_findDistance_63 : decode cX6_findDistance 63 = .ok (.iconst 0, 1) := by decide +kernel
theorem dX6_findDistance_64 : decode cX6_findDistance 64 = .ok (.ireturn, 1) := by decide +kernel
theorem dX6_findDistance_65 : decode cX6_findDistance 65 = .ok (.iinc 3 1, 3) := by decide +kernel
theorem dX6_findDistance_68 : decode cX6_findDistance 68 = .ok (.goto (-31), 3) := by decide +kernel
theorem dX6_findDistance_71 : decode cX6_findDistance 71 = .ok (.iconst 1, 1) := by decide +kernel
theorem dX6_findDistance_72 : decode cX6_findDistance 72 = .ok (.ireturn, 1) := by decide +kernel
set_option maxRecDepth 20000 in
theorem ggX6_reconstruct_X6_findDistance : GoodIn wsX6_reconstruct wsX6_findDistance := goodIn_r _ [13, 1, 6, 14, 15, 16, 12, 17, 18, 19, 20, 21, 22, 23, 24, 25, 26, 27, 28, 29, 30, 31, 32, 33, 34, 35, 36, 37, 38, 39, 4, 40, 41, 42, 43, 44, 45, 46, 47, 48, 49, 50, 51, 52, 8, 53, 54, 55, 56, 57, 58, 59, 60, 61, 62, 63, 64, 65, 66, 67, 68, 69, 70, 71, 72, 73, 74, 75, 76] (by decide +kernel) (by decide +kernel)
set_option maxRecDepth 20000 in
theorem gX6_reconstruct_X6_findDistance : GoodIn wsX6_reconstruct (wsV RX6 163 RX6 yX6_findDistance wsX6_findDistance) := goodIn_app (goodIn_of _ (by decide +kernel)) ggX6_reconstruct_X6_findDistance
theorem dX6_reconstruct_0 : decode cX6_reconstruct 0 = .ok (.aload_n 0, 1) := by decide +kernel
theorem dX6_reconstruct_1 : decode cX6_reconstruct 1 = .ok (.iconst 0, 1) := by decide +kernel
theorem dX6_reconstruct_2 : decode cX6_reconstruct 2 = .ok (.putfield 147, 3) := by decide +kernel
theorem dX6_reconstruct_5 : decode cX6_reconstruct 5 = .ok (.iconst (-1), 1) := by decide +kernel
theorem dX6_reconstruct_6 : decode cX6_reconstruct 6 = .ok (.istore_n 1, 1) := by decide +kernel
theorem dX6_reconstruct_7 : decode cX6_reconstruct 7 = .ok (.iconst 0, 1) := by decide +kernel
theorem dX6_reconstruct_8 : decode cX6_reconstruct 8 = .ok (.istore_n 2, 1) := by decide +kernel
theorem dX6_reconstruct_9 : decode cX6_reconstruct 9 = .ok (.iload_n 2, 1) := by decide +kernel
theorem dX6_reconstruct_10 : decode cX6_reconstruct 10 = .ok (.bipush 20, 2) := by decide +kernel
theorem dX6_reconstruct_12 : decode cX6_reconstruct 12 = .ok (.if_icmp .gt 33, 3) := by decide +kernel
theorem dX6_reconstruct_15 : decode cX6_reconstruct 15 = .ok (.aload_n 0, 1) := by decide +kernel
theorem dX6_reconstruct_16 : decode cX6_reconstruct 16 = .ok (.getfield 147, 3) := by decide +kernel
theorem dX6_reconstruct_19 : decode cX6_reconstruct 19 = .ok (.iload_n 1, 1) := by decide +kernel
theorem dX6_reconstruct_20 : decode cX6_reconstruct 20 = .ok (.if_icmp .le 25, 3) := by decide +kernel
theorem dX6_reconstruct_23 : decode cX6_reconstruct 23 = .ok (.aload_n 0, 1) := by decide +kernel
theorem dX6_reconstruct_24 : decode cX6_reconstruct 24 = .ok (.getfield 147, 3) := by decide +kernel
theorem dX6_reconstruct_27 : decode cX6_reconstruct 27 = .ok (.istore_n 1, 1) := by decide +kernel
theorem dX6_reconstruct_28 : decode cX6_reconstruct 28 = .ok (.aload_n 0, 1) := by decide +kernel
theorem dX6_reconstruct_29 : decode cX6_reconstruct 29 = .ok (.iload_n 2, 1) := by decide +kernel
theorem dX6_reconstruct_30 : decode cX6_reconstruct 30 = .ok (.invokevirtual 163, 3) := by decide +kernel
theorem dX6_reconstruct_33 : decode cX6_reconstruct 33 = .ok (.ifCond .ne 6, 3) := by decide +kernel
theorem dX6_reconstruct_36 : decode cX6_reconstruct 36 = .ok (.bipush (-6), 2) := by decide +kernel
theorem dX6_reconstruct_38 : decode cX6_reconstruct 38 = .ok (.ireturn, 1) := by decide +kernel
theorem dX6_reconstruct_39 : decode cX6_reconstruct 39 = .ok (.iinc 2 1, 3) := by decide +kernel
theorem dX6_reconstruct_42 : decode cX6_reconstruct 42 = .ok (.goto (-33), 3) := by decide +kernel
theorem dX6_reconstruct_45 : decode cX6_reconstruct 45 = .ok (.aload_n 0, 1) := by decide +kernel
theorem dX6_reconstruct_46 : decode cX6_reconstruct 46 = .ok (.aload_n 0, 1) := by decide +kernel
theorem dX6_reconstruct_47 : decode cX6_reconstruct 47 = .ok (.getfield 147, 3) := by decide +kernel
theorem dX6_reconstruct_50 : decode cX6_reconstruct 50 = .ok (.putfield 166, 3) := by decide +kernel
theorem dX6_reconstruct_53 : decode cX6_reconstruct 53 = .ok (.iconst 0, 1) := by decide +kernel
theorem dX6_reconstruct_54 : decode cX6_reconstruct 54 = .ok (.istore_n 2, 1) := by decide +kernel
theorem dX6_reconstruct_55 : decode cX6_reconstruct 55 = .ok (.iload_n 2, 1) := by decide +kernel
theorem dX6_reconstruct_56 : decode cX6_reconstruct 56 = .ok (.aload_n 0, 1) := by decide +kernel
theorem dX6_reconstruct_57 : decode cX6_reconstruct 57 = .ok (.getfield 166, 3) := by decide +kernel
theorem dX6_reconstruct_60 : decode cX6_reconstruct 60 = .ok (.if_icmp .ge 45, 3) := by decide +kernel
theorem dX6_reconstruct_63 : decode cX6_reconstruct 63 = .ok (.aload_n 0, 1) := by decide +kernel
theorem dX6_reconstruct_64 : decode cX6_reconstruct 64 = .ok (.getfield 25, 3) := by decide +kernel
theorem dX6_reconstruct_67 : decode cX6_reconstruct 67 = .ok (.iload_n 2, 1) := by decide +kernel
theorem dX6_reconstruct_68 : decode cX6_reconstruct 68 = .ok (.aload_n 0, 1) := by decide +kernel
theorem dX6_reconstruct_69 : decode cX6_reconstruct 69 = .ok (.getfield 34, 3) := by decide +kernel
theorem dX6_reconstruct_72 : decode cX6_reconstruct 72 = .ok (.iload_n 2, 1) := by decide +kernel
theorem dX6_reconstruct_73 : decode cX6_reconstruct 73 = .ok (.iaload, 1) := by decide +kernel
theorem dX6_reconstruct_74 : decode cX6_reconstruct 74 = .ok (.iastore, 1) := by decide +kernel
theorem dX6_reconstruct_75 : decode cX6_reconstruct 75 = .ok (.aload_n 0, 1) := by decide +kernel
theorem dX6_reconstruct_76 : decode cX6_reconstruct 76 = .ok (.getfield 28, 3) := by decide +kernel
theorem dX6_reconstruct_79 : decode cX6_reconstruct 79 = .ok (.iload_n 2, 1) := by decide +kernel
theorem dX6_reconstruct_80 : decode cX6_reconstruct 80 = .ok (.aload_n 0, 1) := by decide +kernel
theorem dX6_reconstruct_81 : decode cX6_reconstruct 81 = .ok (.getfield 37, 3) := by decide +kernel
theorem dX6_reconstruct_84 : decode cX6_reconstruct 84 = .ok (.iload_n 2, 1) := by decide +kernel
theorem dX6_reconstruct_85 : decode cX6_reconstruct 85 = .ok (.iaload, 1) := by decide +kernel
theorem dX6_reconstruct_86 : decode cX6_reconstruct 86 = .ok (.iastore, 1) := by decide +kernel
theorem dX6_reconstruct_87 : decode cX6_reconstruct 87 = .ok (.aload_n 0, 1) := by decide +kernel
theorem dX6_reconstruct_88 : decode cX6_reconstruct 88 = .ok (.getfield 31, 3) := by decide +kernel
theorem dX6_reconstruct_91 : decode cX6_reconstruct 91 = .ok (.iload_n 2, 1) := by decide +kernel
theorem dX6_reconstruct_92 : decode cX6_reconstruct 92 = .ok (.aload_n 0, 1) := by decide +kernel
theorem dX6_reconstruct_93 : decode cX6_reconstruct 93 = .ok (.getfield 40, 3) := by decide +kernel
theorem dX6_reconstruct_96 : decode cX6_reconstruct 96 = .ok (.iload_n 2, 1) := by decide +kernel
theorem dX6_reconstruct_97 : decode cX6_reconstruct 97 = .ok (.iaload, 1) := by decide +kernel
theorem dX6_reconstruct_98 : decode cX6_reconstruct 98 = .ok (.iastore, 1) := by decide +kernel
theorem dX6_reconstruct_99 : decode cX6_reconstruct 99 = .ok (.iinc 2 1, 3) := by decide +kernel
theorem dX6_reconstruct_102 : decode cX6_reconstruct 102 = .ok (.goto (-47), 3) := by decide +kernel
theorem dX6_reconstruct_105 : decode cX6_reconstruct 105 = .ok (.aload_n 0, 1) := by decide +kernel
theorem dX6_reconstruct_106 : decode cX6_reconstruct 106 = .ok (.getfield 166, 3) := by decide +kernel
theorem dX6_reconstruct_109 : decode cX6_reconstruct 109 = .ok (.ireturn, 1) := by decide +kernel
theorem dX6_nodeCount_0 : decode cX6_nodeCount 0 = .ok (.aload_n 0, 1) := by decide +kernel
theorem dX6_nodeCount_1 : decode cX6_nodeCount 1 = .ok (.getfield 166, 3) := by decide +kernel
theorem dX6_nodeCount_4 : decode cX6_nodeCount 4 = .ok (.ireturn, 1) := by decide +kernel
set_option maxRecDepth 20000 in
theorem ggX6_isNode_X6_within : GoodIn wsX6_isNode wsX6_within := goodIn_r _ [5] (by decide +kernel) (by decide +kernel)
set_option maxRecDepth 20000 in
theorem gX6_isNode_X6_within : GoodIn wsX6_isNode (va_wsS RX6 56 yX6_within wsX6_within) := goodIn_app (goodIn_of _ (by decide +kernel)) ggX6_isNode_X6_within
theorem dX6_isNode_0 : decode cX6_isNode 0 = .ok (.iload_n 1, 1) := by decide +kernel
theorem dX6_isNode_1 : decode cX6_isNode 1 = .ok (.iconst 0, 1) := by decide +kernel
theorem dX6_isNode_2 : decode cX6_isNode 2 = .ok (.aload_n 0, 1) := by decide +kernel
theorem dX6_isNode_3 : decode cX6_isNode 3 = .ok (.getfield 166, 3) := by decide +kernel
theorem dX6_isNode_6 : decode cX6_isNode 6 = .ok (.iconst 1, 1) := by decide +kernel
theorem dX6_isNode_7 : decode cX6_isNode 7 = .ok (.isub, 1) := by decide +kernel
theorem dX6_isNode_8 : decode cX6_isNode 8 = .ok (.invokestatic 56, 3) := by decide +kernel
theorem dX6_isNode_11 : decode cX6_isNode 11 = .ok (.ireturn, 1) := by decide +kernel
set_option maxRecDepth 20000 in
theorem ggX6_nodeAddress_X6_isNode : GoodIn wsX6_nodeAddress wsX6_isNode := goodIn_r _ [6, 7, 8, 9, 5, 10, 11, 12, 13, 14, 15, 16, 17, 18, 19, 20, 21, 22, 23, 24, 25, 26, 27, 28, 29, 30, 31, 32, 33, 34] (by decide +kernel) (by decide +kernel)
set_option maxRecDepth 20000 in
theorem gX6_nodeAddress_X6_isNode : GoodIn wsX6_nodeAddress (wsV RX6 169 RX6 yX6_isNode wsX6_isNode) := goodIn_app (goodIn_of _ (by decide +kernel)) ggX6_nodeAddress_X6_isNode
theorem dX6_nodeAddress_0 : decode cX6_nodeAddress 0 = .ok (.aload_n 0, 1) := by decide +kernel
theorem dX6_nodeAddress_1 : decode cX6_nodeAddress 1 = .ok (.iload_n 1, 1) := by decide +kernel
theorem dX6_nodeAddress_2 : decode cX6_nodeAddress 2 = .ok (.invokevirtual 169, 3) := by decide +kernel
theorem dX6_nodeAddress_5 : decode cX6_nodeAddress 5 = .ok (.ifCond .eq 12, 3) := by decide +kernel
theorem dX6_nodeAddress_8 : decode cX6_nodeAddress 8 = .ok (.aload_n 0, 1) := by decide +kernel
theorem dX6_nodeAddress_9 : decode cX6_nodeAddress 9 = .ok (.getfield 25, 3) := by decide +kernel
theorem dX6_nodeAddress_12 : decode cX6_nodeAddress 12 = .ok (.iload_n 1, 1) := by decide +kernel
theorem dX6_nodeAddress_13 : decode cX6_nodeAddress 13 = .ok (.iaload, 1) := by decide +kernel
theorem dX6_nodeAddress_14 : decode cX6_nodeAddress 14 = .ok (.goto 5, 3) := by decide +kernel
theorem dX6_nodeAddress_17 : decode cX6_nodeAddress 17 = .ok (.bipush (-5), 2) := by decide +kernel
theorem dX6_nodeAddress_19 : decode cX6_nodeAddress 19 = .ok (.ireturn, 1) := by decide +kernel
set_option maxRecDepth 20000 in
theorem ggX6_nodeDistance_X6_isNode : GoodIn wsX6_nodeDistance wsX6_isNode := goodIn_r _ [6, 7, 8, 9, 5, 10, 11, 12, 13, 14, 15, 16, 17, 18, 19, 20, 21, 22, 23, 24, 25, 26, 27, 28, 29, 30, 31, 32, 33, 34] (by decide +kernel) (by decide +kernel)
set_option maxRecDepth 20000 in
theorem gX6_nodeDistance_X6_isNode : GoodIn wsX6_nodeDistance (wsV RX6 169 RX6 yX6_isNode wsX6_isNode) := goodIn_app (goodIn_of _ (by decide +kernel)) ggX6_nodeDistance_X6_isNode
theorem dX6_nodeDistance_0 : decode cX6_nodeDistance 0 = .ok (.aload_n 0, 1) := by decide +kernel
theorem dX6_nodeDistance_1 : decode cX6_nodeDistance 1 = .ok (.iload_n 1, 1) := by decide +kernel
theorem dX6_nodeDistance_2 : decode cX6_nodeDistance 2 = .ok (.invokevirtual 169, 3) := by decide +kernel
theorem dX6_nodeDistance_5 : decode cX6_nodeDistance 5 = .ok (.ifCond .eq 12, 3) := by decide +kernel
theorem dX6_nodeDistance_8 : decode cX6_nodeDistance 8 = .ok (.aload_n 0, 1) := by decide +kernel
theorem dX6_nodeDistance_9 : decode cX6_nodeDistance 9 = .ok (.getfield 28, 3) := by decide +kernel
theorem dX6_nodeDistance_12 : decode cX6_nodeDistance 12 = .ok (.iload_n 1, 1) := by decide +kernel
theorem dX6_nodeDistance_13 : decode cX6_nodeDistance 13 = .ok (.iaload, 1) := by decide +kernel
theorem dX6_nodeDistance_14 : decode cX6_nodeDistance 14 = .ok (.goto 5, 3) := by decide +kernel
theorem dX6_nodeDistance_17 : decode cX6_nodeDistance 17 = .ok (.bipush (-5), 2) := by decide +kernel
theorem dX6_nodeDistance_19 : decode cX6_nodeDistance 19 = .ok (.ireturn, 1) := by decide +kernel
set_option maxRecDepth 20000 in
theorem ggX6_nodeParent_X6_isNode : GoodIn wsX6_nodeParent wsX6_isNode := goodIn_r _ [6, 7, 8, 9, 5, 10, 11, 12, 13, 14, 15, 16, 17, 18, 19, 20, 21, 22, 23, 24, 25, 26, 27, 28, 29, 30, 31, 32, 33, 34] (by decide +kernel) (by decide +kernel)
set_option maxRecDepth 20000 in
theorem gX6_nodeParent_X6_isNode : GoodIn wsX6_nodeParent (wsV RX6 169 RX6 yX6_isNode wsX6_isNode) := goodIn_app (goodIn_of _ (by decide +kernel)) ggX6_nodeParent_X6_isNode
theorem dX6_nodeParent_0 : decode cX6_nodeParent 0 = .ok (.aload_n 0, 1) := by decide +kernel
theorem dX6_nodeParent_1 : decode cX6_nodeParent 1 = .ok (.iload_n 1, 1) := by decide +kernel
theorem dX6_nodeParent_2 : decode cX6_nodeParent 2 = .ok (.invokevirtual 169, 3) := by decide +kernel
theorem dX6_nodeParent_5 : decode cX6_nodeParent 5 = .ok (.ifCond .eq 12, 3) := by decide +kernel
theorem dX6_nodeParent_8 : decode cX6_nodeParent 8 = .ok (.aload_n 0, 1) := by decide +kernel
theorem dX6_nodeParent_9 : decode cX6_nodeParent 9 = .ok (.getfield 31, 3) := by decide +kernel
theorem dX6_nodeParent_12 : decode cX6_nodeParent 12 = .ok (.iload_n 1, 1) := by decide +kernel
theorem dX6_nodeParent_13 : decode cX6_nodeParent 13 = .ok (.iaload, 1) := by decide +kernel
theorem dX6_nodeParent_14 : decode cX6_nodeParent 14 = .ok (.goto 5, 3) := by decide +kernel
theorem dX6_nodeParent_17 : decode cX6_nodeParent 17 = .ok (.bipush (-5), 2) := by decide +kernel
theorem dX6_nodeParent_19 : decode cX6_nodeParent 19 = .ok (.ireturn, 1) := by decide +kernel
theorem dX6_routerWith_0 : decode cX6_routerWith 0 = .ok (.iconst 0, 1) := by decide +kernel
theorem dX6_routerWith_1 : decode cX6_routerWith 1 = .ok (.istore_n 2, 1) := by decide +kernel
theorem dX6_routerWith_2 : decode cX6_routerWith 2 = .ok (.iload_n 2, 1) := by decide +kernel
theorem dX6_routerWith_3 : decode cX6_routerWith 3 = .ok (.aload_n 0, 1) := by decide +kernel
theorem dX6_routerWith_4 : decode cX6_routerWith 4 = .ok (.getfield 53, 3) := by decide +kernel
theorem dX6_routerWith_7 : decode cX6_routerWith 7 = .ok (.if_icmp .ge 21, 3) := by decide +kernel
theorem dX6_routerWith_10 : decode cX6_routerWith 10 = .ok (.aload_n 0, 1) := by decide +kernel
theorem dX6_routerWith_11 : decode cX6_routerWith 11 = .ok (.getfield 13, 3) := by decide +kernel
theorem dX6_routerWith_14 : decode cX6_routerWith 14 = .ok (.iload_n 2, 1) := by decide +kernel
theorem dX6_routerWith_15 : decode cX6_routerWith 15 = .ok (.iaload, 1) := by decide +kernel
theorem dX6_routerWith_16 : decode cX6_routerWith 16 = .ok (.iload_n 1, 1) := by decide +kernel
theorem dX6_routerWith_17 : decode cX6_routerWith 17 = .ok (.if_icmp .ne 5, 3) := by decide +kernel
theorem dX6_routerWith_20 : decode cX6_routerWith 20 = .ok (.iload_n 2, 1) := by decide +kernel
theorem dX6_routerWith_21 : decode cX6_routerWith 21 = .ok (.ireturn, 1) := by decide +kernel
theorem dX6_routerWith_22 : decode cX6_routerWith 22 = .ok (.iinc 2 1, 3) := by decide +kernel
theorem dX6_routerWith_25 : decode cX6_routerWith 25 = .ok (.goto (-23), 3) := by decide +kernel
theorem dX6_routerWith_28 : decode cX6_routerWith 28 = .ok (.bipush (-7), 2) := by decide +kernel
theorem dX6_routerWith_30 : decode cX6_routerWith 30 = .ok (.ireturn, 1) := by decide +kernel
set_option maxRecDepth 20000 in
theorem ggX6_routerOf_X6_routerWith : GoodIn wsX6_routerOf wsX6_routerWith := goodIn_r _ [9, 10, 2, 11, 12, 13, 14, 15, 16, 17, 18, 19, 20, 21, 22, 23, 24, 25, 26, 27, 28, 29, 30, 31, 32, 33, 34] (by decide +kernel) (by decide +kernel)
set_option maxRecDepth 20000 in
theorem gX6_routerOf_X6_routerWith : GoodIn wsX6_routerOf (wsV RX6 172 RX6 yX6_routerWith wsX6_routerWith) := goodIn_app (goodIn_of _ (by decide +kernel)) ggX6_routerOf_X6_routerWith
theorem dX6_routerOf_0 : decode cX6_routerOf 0 = .ok (.aload_n 0, 1) := by decide +kernel
theorem dX6_routerOf_1 : decode cX6_routerOf 1 = .ok (.aload_n 0, 1) := by decide +kernel
theorem dX6_routerOf_2 : decode cX6_routerOf 2 = .ok (.getfield 25, 3) := by decide +kernel
theorem dX6_routerOf_5 : decode cX6_routerOf 5 = .ok (.iload_n 1, 1) := by decide +kernel
theorem dX6_routerOf_6 : decode cX6_routerOf 6 = .ok (.iaload, 1) := by decide +kernel
theorem dX6_routerOf_7 : decode cX6_routerOf 7 = .ok (.invokevirtual 172, 3) := by decide +kernel
theorem dX6_routerOf_10 : decode cX6_routerOf 10 = .ok (.istore_n 2, 1) := by decide +kernel
theorem dX6_routerOf_11 : decode cX6_routerOf 11 = .ok (.iload_n 2, 1) := by decide +kernel
theorem dX6_routerOf_12 : decode cX6_routerOf 12 = .ok (.istore_n 3, 1) := by decide +kernel
theorem dX6_routerOf_13 : decode cX6_routerOf 13 = .ok (.iload_n 1, 1) := by decide +kernel
theorem dX6_routerOf_14 : decode cX6_routerOf 14 = .ok (.istore 4, 2) := by decide +kernel
theorem dX6_routerOf_16 : decode cX6_routerOf 16 = .ok (.iload_n 3, 1) := by decide +kernel
theorem dX6_routerOf_17 : decode cX6_routerOf 17 = .ok (.bipush (-7), 2) := by decide +kernel
theorem dX6_routerOf_19 : decode cX6_routerOf 19 = .ok (.if_icmp .eq 45, 3) := by decide +kernel
theorem dX6_routerOf_22 : decode cX6_routerOf 22 = .ok (.iload 4, 2) := by decide +kernel
theorem dX6_routerOf_24 : decode cX6_routerOf 24 = .ok (.bipush (-7), 2) := by decide +kernel
theorem dX6_routerOf_26 : decode cX6_routerOf 26 = .ok (.if_icmp .eq 38, 3) := by decide +kernel
theorem dX6_routerOf_29 : decode cX6_routerOf 29 = .ok (.aload_n 0, 1) := by decide +kernel
theorem dX6_routerOf_30 : decode cX6_routerOf 30 = .ok (.getfield 13, 3) := by decide +kernel
theorem dX6_routerOf_33 : decode cX6_routerOf 33 = .ok (.iload_n 3, 1) := by decide +kernel
theorem dX6_routerOf_34 : decode cX6_routerOf 34 = .ok (.iaload, 1) := by decide +kernel
theorem dX6_routerOf_35 : decode cX6_routerOf 35 = .ok (.aload_n 0, 1) := by decide +kernel
theorem dX6_routerOf_36 : decode cX6_routerOf 36 = .ok (.getfield 25, 3) := by decide +kernel
theorem dX6_routerOf_39 : decode cX6_routerOf 39 = .ok (.iload 4, 2) := by decide +kernel
theorem dX6_routerOf_41 : decode cX6_routerOf 41 = .ok (.iaload, 1) := by decide +kernel
theorem dX6_routerOf_42 : decode cX6_routerOf 42 = .ok (.if_icmp .ne 22, 3) := by decide +kernel
theorem dX6_routerOf_45 : decode cX6_routerOf 45 = .ok (.aload_n 0, 1) := by decide +kernel
theorem dX6_routerOf_46 : decode cX6_routerOf 46 = .ok (.getfield 7, 3) := by decide +kernel
theorem dX6_routerOf_49 : decode cX6_routerOf 49 = .ok (.iload_n 3, 1) := by decide +kernel
theorem dX6_routerOf_50 : decode cX6_routerOf 50 = .ok (.iaload, 1) := by decide +kernel
theorem dX6_routerOf_51 : decode cX6_routerOf 51 = .ok (.istore_n 3, 1) := by decide +kernel
theorem dX6_routerOf_52 : decode cX6_routerOf 52 = .ok (.aload_n 0, 1) := by decide +kernel
theorem dX6_routerOf_53 : decode cX6_routerOf 53 = .ok (.getfield 31, 3) := by decide +kernel
theorem dX6_routerOf_56 : decode cX6_routerOf 56 = .ok (.iload 4, 2) := by decide +kernel
theorem dX6_routerOf_58 : decode cX6_routerOf 58 = .ok (.iaload, 1) := by decide +kernel
theorem dX6_routerOf_59 : decode cX6_routerOf 59 = .ok (.istore 4, 2) := by decide +kernel
theorem dX6_routerOf_61 : decode cX6_routerOf 61 = .ok (.goto (-45), 3) := by decide +kernel
theorem dX6_routerOf_64 : decode cX6_routerOf 64 = .ok (.iload_n 3, 1) := by decide +kernel
theorem dX6_routerOf_65 : decode cX6_routerOf 65 = .ok (.bipush (-7), 2) := by decide +kernel
theorem dX6_routerOf_67 : decode cX6_routerOf 67 = .ok (.if_icmp .ne 14, 3) := by decide +kernel
theorem dX6_routerOf_70 : decode cX6_routerOf 70 = .ok (.iload 4, 2) := by decide +kernel
theorem dX6_routerOf_72 : decode cX6_routerOf 72 = .ok (.bipush (-7), 2) := by decide +kernel
theorem dX6_routerOf_74 : decode cX6_routerOf 74 = .ok (.if_icmp .ne 7, 3) := by decide +kernel
theorem dX6_routerOf_77 : decode cX6_routerOf 77 = .ok (.iload_n 2, 1) := by decide +kernel
theorem dX6_routerOf_78 : decode cX6_routerOf 78 = .ok (.goto 5, 3) := by decide +kernel
theorem dX6_routerOf_81 : decode cX6_routerOf 81 = .ok (.bipush (-7), 2) := by decide +kernel
theorem dX6_routerOf_83 : decode cX6_routerOf 83 = .ok (.ireturn, 1) := by decide +kernel
set_option maxRecDepth 20000 in
theorem ggX6_nodeRouter_X6_isNode : GoodIn wsX6_nodeRouter wsX6_isNode := goodIn_r _ [5, 6, 7, 8, 4, 9, 23, 24, 25, 26, 27, 28, 29, 30, 31, 32, 33, 34, 35, 36, 37, 38, 39, 40, 41, 42, 43, 44, 45, 46] (by decide +kernel) (by decide +kernel)
set_option maxRecDepth 20000 in
theorem gX6_nodeRouter_X6_isNode : GoodIn wsX6_nodeRouter (wsV RX6 169 RX6 yX6_isNode wsX6_isNode) := goodIn_app (goodIn_of _ (by decide +kernel)) ggX6_nodeRouter_X6_isNode
set_option maxRecDepth 20000 in
theorem ggX6_nodeRouter_X6_routerOf : GoodIn wsX6_nodeRouter wsX6_routerOf := goodIn_r _ [13, 14, 15, 16, 17, 18, 19, 20, 4, 21, 22, 23, 24, 25, 26, 27, 28, 29, 30, 31, 32, 33, 34, 35, 36, 37, 38, 39, 40, 41, 42, 43, 44, 45, 46] (by decide +kernel) (by decide +kernel)
set_option maxRecDepth 20000 in
theorem gX6_nodeRouter_X6_routerOf : GoodIn wsX6_nodeRouter (wsV RX6 175 RX6 yX6_routerOf wsX6_routerOf) := goodIn_app (goodIn_of _ (by decide +kernel)) ggX6_nodeRouter_X6_routerOf
theorem dX6_nodeRouter_0 : decode cX6_nodeRouter 0 = .ok (.aload_n 0, 1) := by decide +kernel
theorem dX6_nodeRouter_1 : decode cX6_nodeRouter 1 = .ok (.iload_n 1, 1) := by decide +kernel
theorem dX6_nodeRouter_2 : decode cX6_nodeRouter 2 = .ok (.invokevirtual 169, 3) := by decide +kernel
theorem dX6_nodeRouter_5 : decode cX6_nodeRouter 5 = .ok (.ifCond .eq 11, 3) := by decide +kernel
theorem dX6_nodeRouter_8 : decode cX6_nodeRouter 8 = .ok (.aload_n 0, 1) := by decide +kernel
theorem dX6_nodeRouter_9 : decode cX6_nodeRouter 9 = .ok (.iload_n 1, 1) := by decide +kernel
theorem dX6_nodeRouter_10 : decode cX6_nodeRouter 10 = .ok (.invokevirtual 175, 3) := by decide +kernel
theorem dX6_nodeRouter_13 : decode cX6_nodeRouter 13 = .ok (.goto 5, 3) := by decide +kernel
theorem dX6_nodeRouter_16 : decode cX6_nodeRouter 16 = .ok (.bipush (-5), 2) := by decide +kernel
theorem dX6_nodeRouter_18 : decode cX6_nodeRouter 18 = .ok (.ireturn, 1) := by decide +kernel
set_option maxRecDepth 20000 in
theorem ggX6_falseNodeCount_X6_routerOf : GoodIn wsX6_falseNodeCount wsX6_routerOf := goodIn_r _ [6, 7, 8, 9, 10, 11, 12, 13, 5, 14, 15, 16, 17, 18, 19, 20, 21, 22, 23, 24, 25, 26, 27, 28, 29, 30, 31, 32, 33, 34, 35, 36, 37, 38, 39] (by decide +kernel) (by decide +kernel)
set_option maxRecDepth 20000 in
theorem gX6_falseNodeCount_X6_routerOf : GoodIn wsX6_falseNodeCount (wsV RX6 175 RX6 yX6_routerOf wsX6_routerOf) := goodIn_app (goodIn_of _ (by decide +kernel)) ggX6_falseNodeCount_X6_routerOf
theorem dX6_falseNodeCount_0 : decode cX6_falseNodeCount 0 = .ok (.iconst 0, 1) := by decide +kernel
theorem dX6_falseNodeCount_1 : decode cX6_falseNodeCount 1 = .ok (.istore_n 1, 1) := by decide +kernel
theorem dX6_falseNodeCount_2 : decode cX6_falseNodeCount 2 = .ok (.iconst 0, 1) := by decide +kernel
theorem dX6_falseNodeCount_3 : decode cX6_falseNodeCount 3 = .ok (.istore_n 2, 1) := by decide +kernel
theorem dX6_falseNodeCount_4 : decode cX6_falseNodeCount 4 = .ok (.iload_n 2, 1) := by decide +kernel
theorem dX6_falseNodeCount_5 : decode cX6_falseNodeCount 5 = .ok (.aload_n 0, 1) := by decide +kernel
theorem dX6_falseNodeCount_6 : decode cX6_falseNodeCount 6 = .ok (.getfield 166, 3) := by decide +kernel
theorem dX6_falseNodeCount_9 : decode cX6_falseNodeCount 9 = .ok (.if_icmp .ge 27, 3) := by decide +kernel
theorem dX6_falseNodeCount_12 : decode cX6_falseNodeCount 12 = .ok (.iload_n 1, 1) := by decide +kernel
theorem dX6_falseNodeCount_13 : decode cX6_falseNodeCount 13 = .ok (.aload_n 0, 1) := by decide +kernel
theorem dX6_falseNodeCount_14 : decode cX6_falseNodeCount 14 = .ok (.iload_n 2, 1) := by decide +kernel
theorem dX6_falseNodeCount_15 : decode cX6_falseNodeCount 15 = .ok (.invokevirtual 175, 3) := by decide +kernel
theorem dX6_falseNodeCount_18 : decode cX6_falseNodeCount 18 = .ok (.bipush (-7), 2) := by decide +kernel
theorem dX6_falseNodeCount_20 : decode cX6_falseNodeCount 20 = .ok (.if_icmp .ne 7, 3) := by decide +kernel
theorem dX6_falseNodeCount_23 : decode cX6_falseNodeCount 23 = .ok (.iconst 1, 1) := by decide +kernel
theorem dX6_falseNodeCount_24 : decode cX6_falseNodeCount 24 = .ok (.goto 4, 3) := by decide +kernel
theorem dX6_falseNodeCount_27 : decode cX6_falseNodeCount 27 = .ok (.iconst 0, 1) := by decide +kernel
theorem dX6_falseNodeCount_28 : decode cX6_falseNodeCount 28 = .ok (.iadd, 1) := by decide +kernel
theorem dX6_falseNodeCount_29 : decode cX6_falseNodeCount 29 = .ok (.istore_n 1, 1) := by decide +kernel
theorem dX6_falseNodeCount_30 : decode cX6_falseNodeCount 30 = .ok (.iinc 2 1, 3) := by decide +kernel
theorem dX6_falseNodeCount_33 : decode cX6_falseNodeCount 33 = .ok (.goto (-29), 3) := by decide +kernel
theorem dX6_falseNodeCount_36 : decode cX6_falseNodeCount 36 = .ok (.iload_n 1, 1) := by decide +kernel
theorem dX6_falseNodeCount_37 : decode cX6_falseNodeCount 37 = .ok (.ireturn, 1) := by decide +kernel
set_option maxRecDepth 20000 in
theorem ggX6_nodeOf_X6_isRouter : GoodIn wsX6_nodeOf wsX6_isRouter := goodIn_r _ [6, 7, 8, 9, 5, 10, 23, 24, 25, 26, 27, 28, 29, 30, 31, 32, 33, 34, 35, 36, 37, 38, 39, 40, 41, 42, 43, 44, 45, 46] (by decide +kernel) (by decide +kernel)
set_option maxRecDepth 20000 in
theorem gX6_nodeOf_X6_isRouter : GoodIn wsX6_nodeOf (wsV RX6 60 RX6 yX6_isRouter wsX6_isRouter) := goodIn_app (goodIn_of _ (by decide +kernel)) ggX6_nodeOf_X6_isRouter
set_option maxRecDepth 20000 in
theorem ggX6_nodeOf_X6_routerOf : GoodIn wsX6_nodeOf wsX6_routerOf := goodIn_r _ [14, 15, 16, 17, 18, 19, 20, 21, 5, 22, 7, 23, 24, 25, 26, 27, 28, 29, 30, 31, 32, 33, 34, 35, 36, 37, 38, 39, 40, 41, 42, 43, 44, 45, 46] (by decide +kernel) (by decide +kernel)
set_option maxRecDepth 20000 in
theorem gX6_nodeOf_X6_routerOf : GoodIn wsX6_nodeOf (wsV RX6 175 RX6 yX6_routerOf wsX6_routerOf) := goodIn_app (goodIn_of _ (by decide +kernel)) ggX6_nodeOf_X6_routerOf
theorem dX6_nodeOf_0 : decode cX6_nodeOf 0 = .ok (.aload_n 0, 1) := by decide +kernel
theorem dX6_nodeOf_1 : decode cX6_nodeOf 1 = .ok (.iload_n 1, 1) := by decide +kernel
theorem dX6_nodeOf_2 : decode cX6_nodeOf 2 = .ok (.invokevirtual 60, 3) := by decide +kernel
theorem dX6_nodeOf_5 : decode cX6_nodeOf 5 = .ok (.ifCond .ne 5, 3) := by decide +kernel
theorem dX6_nodeOf_8 : decode cX6_nodeOf 8 = .ok (.iconst (-1), 1) := by decide +kernel
theorem dX6_nodeOf_9 : decode cX6_nodeOf 9 = .ok (.ireturn, 1) := by decide +kernel
theorem dX6_nodeOf_10 : decode cX6_nodeOf 10 = .ok (.iconst 0, 1) := by decide +kernel
theorem dX6_nodeOf_11 : decode cX6_nodeOf 11 = .ok (.istore_n 2, 1) := by decide +kernel
theorem dX6_nodeOf_12 : decode cX6_nodeOf 12 = .ok (.iload_n 2, 1) := by decide +kernel
theorem dX6_nodeOf_13 : decode cX6_nodeOf 13 = .ok (.aload_n 0, 1) := by decide +kernel
theorem dX6_nodeOf_14 : decode cX6_nodeOf 14 = .ok (.getfield 166, 3) := by decide +kernel
theorem dX6_nodeOf_17 : decode cX6_nodeOf 17 = .ok (.if_icmp .ge 20, 3) := by decide +kernel
theorem dX6_nodeOf_20 : decode cX6_nodeOf 20 = .ok (.aload_n 0, 1) := by decide +kernel
theorem dX6_nodeOf_21 : decode cX6_nodeOf 21 = .ok (.iload_n 2, 1) := by decide +kernel
theorem dX6_nodeOf_22 : decode cX6_nodeOf 22 = .ok (.invokevirtual 175, 3) := by decide +kernel
theorem dX6_nodeOf_25 : decode cX6_nodeOf 25 = .ok (.iload_n 1, 1) := by decide +kernel
theorem dX6_nodeOf_26 : decode cX6_nodeOf 26 = .ok (.if_icmp .ne 5, 3) := by decide +kernel
theorem dX6_nodeOf_29 : decode cX6_nodeOf 29 = .ok (.iload_n 2, 1) := by decide +kernel
theorem dX6_nodeOf_30 : decode cX6_nodeOf 30 = .ok (.ireturn, 1) := by decide +kernel
theorem dX6_nodeOf_31 : decode cX6_nodeOf 31 = .ok (.iinc 2 1, 3) := by decide +kernel
theorem dX6_nodeOf_34 : decode cX6_nodeOf 34 = .ok (.goto (-22), 3) := by decide +kernel
theorem dX6_nodeOf_37 : decode cX6_nodeOf 37 = .ok (.bipush (-7), 2) := by decide +kernel
theorem dX6_nodeOf_39 : decode cX6_nodeOf 39 = .ok (.ireturn, 1) := by decide +kernel

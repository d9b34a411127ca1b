set_option maxRecDepth 20000 in
theorem ggX5_init_X2_init : GoodIn wsX5_init wsX2_init := goodIn_r _ [30, 31, 2, 3, 20, 32, 33, 34, 35, 66, 67, 68, 69] (by decide +kernel) (by decide +kernel)
set_option maxRecDepth 20000 in
theorem gX5_init_X2_init : GoodIn wsX5_init (wsX2_init) := ggX5_init_X2_init
set_option maxRecDepth 20000 in
theorem ggX5_init_X0_init : GoodIn wsX5_init wsX0_init := goodIn_r _ [38, 39, 2, 3, 40, 78] (by decide +kernel) (by decide +kernel)
set_option maxRecDepth 20000 in
theorem gX5_init_X0_init : GoodIn wsX5_init (wsX0_init) := ggX5_init_X0_init
set_option maxRecDepth 20000 in
theorem ggX5_init_X4_init : GoodIn wsX5_init wsX4_init := goodIn_r _ [43, 44, 2, 3, 45, 46, 47, 48, 49, 79, 80, 81, 82, 83] (by decide +kernel) (by decide +kernel)
set_option maxRecDepth 20000 in
theorem gX5_init_X4_init : GoodIn wsX5_init (wsX4_init) := ggX5_init_X4_init
set_option maxRecDepth 20000 in
theorem ggX5_init_X1_init : GoodIn wsX5_init wsX1_init := goodIn_r _ [52, 53, 2, 3, 20, 54, 55, 56, 57, 84, 85, 86, 87] (by decide +kernel) (by decide +kernel)
set_option maxRecDepth 20000 in
theorem gX5_init_X1_init : GoodIn wsX5_init (wsX1_init) := ggX5_init_X1_init
set_option maxRecDepth 20000 in
theorem ggX5_init_X3_init : GoodIn wsX5_init wsX3_init := goodIn_r _ [60, 61, 2, 3, 20, 62, 63, 64, 65, 88, 89, 90, 91] (by decide +kernel) (by decide +kernel)
set_option maxRecDepth 20000 in
theorem gX5_init_X3_init : GoodIn wsX5_init (wsX3_init) := ggX5_init_X3_init
theorem dX5_init_0 : decode cX5_init 0 = .ok (.aload_n 0, 1) := by decide +kernel
theorem dX5_init_1 : decode cX5_init 1 = .ok (.invokespecial 1, 3) := by decide +kernel
theorem dX5_init_4 : decode cX5_init 4 = .ok (.aload_n 0, 1) := by decide +kernel
theorem dX5_init_5 : decode cX5_init 5 = .ok (.new 7, 3) := by decide +kernel
theorem dX5_init_8 : decode cX5_init 8 = .ok (.dup, 1) := by decide +kernel
theorem dX5_init_9 : decode cX5_init 9 = .ok (.invokespecial 9, 3) := by decide +kernel
theorem dX5_init_12 : decode cX5_init 12 = .ok (.putfield 10, 3) := by decide +kernel
theorem dX5_init_15 : decode cX5_init 15 = .ok (.aload_n 0, 1) := by decide +kernel
theorem dX5_init_16 : decode cX5_init 16 = .ok (.new 16, 3) := by decide +kernel
theorem dX5_init_19 : decode cX5_init 19 = .ok (.dup, 1) := by decide +kernel
theorem dX5_init_20 : decode cX5_init 20 = .ok (.invokespecial 18, 3) := by decide +kernel
theorem dX5_init_23 : decode cX5_init 23 = .ok (.putfield 19, 3) := by decide +kernel
theorem dX5_init_26 : decode cX5_init 26 = .ok (.aload_n 0, 1) := by decide +kernel
theorem dX5_init_27 : decode cX5_init 27 = .ok (.new 23, 3) := by decide +kernel
theorem dX5_init_30 : decode cX5_init 30 = .ok (.dup, 1) := by decide +kernel
theorem dX5_init_31 : decode cX5_init 31 = .ok (.invokespecial 25, 3) := by decide +kernel
theorem dX5_init_34 : decode cX5_init 34 = .ok (.putfield 26, 3) := by decide +kernel
theorem dX5_init_37 : decode cX5_init 37 = .ok (.aload_n 0, 1) := by decide +kernel
theorem dX5_init_38 : decode cX5_init 38 = .ok (.new 30, 3) := by decide +kernel
theorem dX5_init_41 : decode cX5_init 41 = .ok (.dup, 1) := by decide +kernel
theorem dX5_init_42 : decode cX5_init 42 = .ok (.invokespecial 32, 3) := by decide +kernel
theorem dX5_init_45 : decode cX5_init 45 = .ok (.putfield 33, 3) := by decide +kernel
theorem dX5_init_48 : decode cX5_init 48 = .ok (.aload_n 0, 1) := by decide +kernel
theorem dX5_init_49 : decode cX5_init 49 = .ok (.bipush 20, 2) := by decide +kernel
theorem dX5_init_51 : decode cX5_init 51 = .ok (.newarray .int, 2) := by decide +kernel
theorem dX5_init_53 : decode cX5_init 53 = .ok (.putfield 37, 3) := by decide +kernel
theorem dX5_init_56 : decode cX5_init 56 = .ok (.aload_n 0, 1) := by decide +kernel
theorem dX5_init_57 : decode cX5_init 57 = .ok (.bipush 20, 2) := by decide +kernel
theorem dX5_init_59 : decode cX5_init 59 = .ok (.putfield 41, 3) := by decide +kernel
theorem dX5_init_62 : decode cX5_init 62 = .ok (.aload_n 0, 1) := by decide +kernel
theorem dX5_init_63 : decode cX5_init 63 = .ok (.new 45, 3) := by decide +kernel
theorem dX5_init_66 : decode cX5_init 66 = .ok (.dup, 1) := by decide +kernel
theorem dX5_init_67 : decode cX5_init 67 = .ok (.invokespecial 47, 3) := by decide +kernel
theorem dX5_init_70 : decode cX5_init 70 = .ok (.putfield 48, 3) := by decide +kernel
theorem dX5_init_73 : decode cX5_init 73 = .ok (.aload_n 0, 1) := by decide +kernel
theorem dX5_init_74 : decode cX5_init 74 = .ok (.new 45, 3) := by decide +kernel
theorem dX5_init_77 : decode cX5_init 77 = .ok (.dup, 1) := by decide +kernel
theorem dX5_init_78 : decode cX5_init 78 = .ok (.invokespecial 47, 3) := by decide +kernel
theorem dX5_init_81 : decode cX5_init 81 = .ok (.putfield 52, 3) := by decide +kernel
theorem dX5_init_84 : decode cX5_init 84 = .ok (.return_, 1) := by decide +kernel
set_option maxRecDepth 20000 in
theorem ggX5_addRouter_X2_isEmpty : GoodIn wsX5_addRouter wsX2_isEmpty := goodIn_r _ [6, 7, 40, 41, 42, 43] (by decide +kernel) (by decide +kernel)
set_option maxRecDepth 20000 in
theorem gX5_addRouter_X2_isEmpty : GoodIn wsX5_addRouter (wsV RX5 55 RX2 yX2_isEmpty wsX2_isEmpty) := goodIn_app (goodIn_of _ (by decide +kernel)) ggX5_addRouter_X2_isEmpty
set_option maxRecDepth 20000 in
theorem ggX5_addRouter_X2_has : GoodIn wsX5_addRouter wsX2_has := goodIn_r _ [11, 7, 12, 13, 14, 40, 41, 42, 43] (by decide +kernel) (by decide +kernel)
set_option maxRecDepth 20000 in
theorem gX5_addRouter_X2_has : GoodIn wsX5_addRouter (wsV RX5 59 RX2 yX2_has wsX2_has) := goodIn_app (goodIn_of _ (by decide +kernel)) ggX5_addRouter_X2_has
set_option maxRecDepth 20000 in
theorem ggX5_addRouter_X5_isBelow : GoodIn wsX5_addRouter wsX5_isBelow := goodIn_r _ [14] (by decide +kernel) (by decide +kernel)
set_option maxRecDepth 20000 in
theorem gX5_addRouter_X5_isBelow : GoodIn wsX5_addRouter (va_wsS RX5 63 yX5_isBelow wsX5_isBelow) := goodIn_app (goodIn_of _ (by decide +kernel)) ggX5_addRouter_X5_isBelow
set_option maxRecDepth 20000 in
theorem ggX5_addRouter_X2_find : GoodIn wsX5_addRouter wsX2_find := goodIn_r _ [19, 7, 20, 40, 41, 42, 43] (by decide +kernel) (by decide +kernel)
set_option maxRecDepth 20000 in
theorem gX5_addRouter_X2_find : GoodIn wsX5_addRouter (wsV RX5 67 RX2 yX2_find wsX2_find) := goodIn_app (goodIn_of _ (by decide +kernel)) ggX5_addRouter_X2_find
set_option maxRecDepth 20000 in
theorem ggX5_addRouter_X2_append : GoodIn wsX5_addRouter wsX2_append := goodIn_r _ [24, 7, 25, 26, 20, 12, 13, 14, 27, 28, 29, 5, 30, 31, 9, 10, 11, 40, 41, 42, 43] (by decide +kernel) (by decide +kernel)
set_option maxRecDepth 20000 in
theorem gX5_addRouter_X2_append : GoodIn wsX5_addRouter (wsV RX5 71 RX2 yX2_append wsX2_append) := goodIn_app (goodIn_of _ (by decide +kernel)) ggX5_addRouter_X2_append
theorem dX5_addRouter_0 : decode cX5_addRouter 0 = .ok (.aload_n 0, 1) := by decide +kernel
theorem dX5_addRouter_1 : decode cX5_addRouter 1 = .ok (.getfield 10, 3) := by decide +kernel
theorem dX5_addRouter_4 : decode cX5_addRouter 4 = .ok (.invokevirtual 55, 3) := by decide +kernel
theorem dX5_addRouter_7 : decode cX5_addRouter 7 = .ok (.ifCond .ne 16, 3) := by decide +kernel
theorem dX5_addRouter_10 : decode cX5_addRouter 10 = .ok (.aload_n 0, 1) := by decide +kernel
theorem dX5_addRouter_11 : decode cX5_addRouter 11 = .ok (.getfield 10, 3) := by decide +kernel
theorem dX5_addRouter_14 : decode cX5_addRouter 14 = .ok (.iload_n 1, 1) := by decide +kernel
theorem dX5_addRouter_15 : decode cX5_addRouter 15 = .ok (.invokevirtual 59, 3) := by decide +kernel
theorem dX5_addRouter_18 : decode cX5_addRouter 18 = .ok (.ifCond .ne 5, 3) := by decide +kernel
theorem dX5_addRouter_21 : decode cX5_addRouter 21 = .ok (.iconst (-1), 1) := by decide +kernel
theorem dX5_addRouter_22 : decode cX5_addRouter 22 = .ok (.ireturn, 1) := by decide +kernel
theorem dX5_addRouter_23 : decode cX5_addRouter 23 = .ok (.iload_n 2, 1) := by decide +kernel
theorem dX5_addRouter_24 : decode cX5_addRouter 24 = .ok (.sipush 4096, 3) := by decide +kernel
theorem dX5_addRouter_27 : decode cX5_addRouter 27 = .ok (.invokestatic 63, 3) := by decide +kernel
theorem dX5_addRouter_30 : decode cX5_addRouter 30 = .ok (.ifCond .ne 6, 3) := by decide +kernel
theorem dX5_addRouter_33 : decode cX5_addRouter 33 = .ok (.bipush (-2), 2) := by decide +kernel
theorem dX5_addRouter_35 : decode cX5_addRouter 35 = .ok (.ireturn, 1) := by decide +kernel
theorem dX5_addRouter_36 : decode cX5_addRouter 36 = .ok (.aload_n 0, 1) := by decide +kernel
theorem dX5_addRouter_37 : decode cX5_addRouter 37 = .ok (.getfield 10, 3) := by decide +kernel
theorem dX5_addRouter_40 : decode cX5_addRouter 40 = .ok (.aload_n 0, 1) := by decide +kernel
theorem dX5_addRouter_41 : decode cX5_addRouter 41 = .ok (.getfield 10, 3) := by decide +kernel
theorem dX5_addRouter_44 : decode cX5_addRouter 44 = .ok (.iload_n 2, 1) := by decide +kernel
theorem dX5_addRouter_45 : decode cX5_addRouter 45 = .ok (.invokevirtual 67, 3) := by decide +kernel
theorem dX5_addRouter_48 : decode cX5_addRouter 48 = .ok (.invokevirtual 59, 3) := by decide +kernel
theorem dX5_addRouter_51 : decode cX5_addRouter 51 = .ok (.ifCond .eq 6, 3) := by decide +kernel
theorem dX5_addRouter_54 : decode cX5_addRouter 54 = .ok (.bipush (-3), 2) := by decide +kernel
theorem dX5_addRouter_56 : decode cX5_addRouter 56 = .ok (.ireturn, 1) := by decide +kernel
theorem dX5_addRouter_57 : decode cX5_addRouter 57 = .ok (.aload_n 0, 1) := by decide +kernel
theorem dX5_addRouter_58 : decode cX5_addRouter 58 = .ok (.getfield 10, 3) := by decide +kernel
theorem dX5_addRouter_61 : decode cX5_addRouter 61 = .ok (.iload_n 1, 1) := by decide +kernel
theorem dX5_addRouter_62 : decode cX5_addRouter 62 = .ok (.iload_n 2, 1) := by decide +kernel
theorem dX5_addRouter_63 : decode cX5_addRouter 63 = .ok (.invokevirtual 71, 3) := by decide +kernel
theorem dX5_addRouter_66 : decode cX5_addRouter 66 = .ok (.ireturn, 1) := by decide +kernel
set_option maxRecDepth 20000 in
theorem ggX5_routerCount_X2_size : GoodIn wsX5_routerCount wsX2_size := goodIn_r _ [6, 7, 16, 17, 18, 19] (by decide +kernel) (by decide +kernel)
set_option maxRecDepth 20000 in
theorem gX5_routerCount_X2_size : GoodIn wsX5_routerCount (wsV RX5 75 RX2 yX2_size wsX2_size) := goodIn_app (goodIn_of _ (by decide +kernel)) ggX5_routerCount_X2_size
theorem dX5_routerCount_0 : decode cX5_routerCount 0 = .ok (.aload_n 0, 1) := by decide +kernel
theorem dX5_routerCount_1 : decode cX5_routerCount 1 = .ok (.getfield 10, 3) := by decide +kernel
theorem dX5_routerCount_4 : decode cX5_routerCount 4 = .ok (.invokevirtual 75, 3) := by decide +kernel
theorem dX5_routerCount_7 : decode cX5_routerCount 7 = .ok (.ireturn, 1) := by decide +kernel
set_option maxRecDepth 20000 in
theorem ggX5_depth_X2_has : GoodIn wsX5_depth wsX2_has := goodIn_r _ [6, 7, 8, 9, 10, 25, 26, 27, 28] (by decide +kernel) (by decide +kernel)
set_option maxRecDepth 20000 in
theorem gX5_depth_X2_has : GoodIn wsX5_depth (wsV RX5 59 RX2 yX2_has wsX2_has) := goodIn_app (goodIn_of _ (by decide +kernel)) ggX5_depth_X2_has
set_option maxRecDepth 20000 in
theorem ggX5_depth_X2_depthOf : GoodIn wsX5_depth wsX2_depthOf := goodIn_r _ [14, 15, 16, 3, 4, 5, 6, 7, 8, 9, 10, 25, 26, 27, 28] (by decide +kernel) (by decide +kernel)
set_option maxRecDepth 20000 in
theorem gX5_depth_X2_depthOf : GoodIn wsX5_depth (wsV RX5 79 RX2 yX2_depthOf wsX2_depthOf) := goodIn_app (goodIn_of _ (by decide +kernel)) ggX5_depth_X2_depthOf
theorem dX5_depth_0 : decode cX5_depth 0 = .ok (.aload_n 0, 1) := by decide +kernel
theorem dX5_depth_1 : decode cX5_depth 1 = .ok (.getfield 10, 3) := by decide +kernel
theorem dX5_depth_4 : decode cX5_depth 4 = .ok (.iload_n 1, 1) := by decide +kernel
theorem dX5_depth_5 : decode cX5_depth 5 = .ok (.invokevirtual 59, 3) := by decide +kernel
theorem dX5_depth_8 : decode cX5_depth 8 = .ok (.ifCond .eq 14, 3) := by decide +kernel
theorem dX5_depth_11 : decode cX5_depth 11 = .ok (.aload_n 0, 1) := by decide +kernel
theorem dX5_depth_12 : decode cX5_depth 12 = .ok (.getfield 10, 3) := by decide +kernel
theorem dX5_depth_15 : decode cX5_depth 15 = .ok (.iload_n 1, 1) := by decide +kernel
theorem dX5_depth_16 : decode cX5_depth 16 = .ok (.invokevirtual 79, 3) := by decide +kernel
theorem dX5_depth_19 : decode cX5_depth 19 = .ok (.goto 4, 3) := by decide +kernel
theorem dX5_depth_22 : decode cX5_depth 22 = .ok (.iconst (-1), 1) := by decide +kernel
theorem dX5_depth_23 : decode cX5_depth 23 = .ok (.ireturn, 1) := by decide +kernel
set_option maxRecDepth 20000 in
theorem ggX5_digest_X5_isBelow : GoodIn wsX5_digest wsX5_isBelow := goodIn_r _ [4] (by decide +kernel) (by decide +kernel)
set_option maxRecDepth 20000 in
theorem gX5_digest_X5_isBelow : GoodIn wsX5_digest (va_wsS RX5 63 yX5_isBelow wsX5_isBelow) := goodIn_app (goodIn_of _ (by decide +kernel)) ggX5_digest_X5_isBelow
set_option maxRecDepth 20000 in
theorem ggX5_digest_X5_digestOf : GoodIn wsX5_digest wsX5_digestOf := goodIn_r _ [7] (by decide +kernel) (by decide +kernel)
set_option maxRecDepth 20000 in
theorem gX5_digest_X5_digestOf : GoodIn wsX5_digest (va_wsS RX5 82 yX5_digestOf wsX5_digestOf) := goodIn_app (goodIn_of _ (by decide +kernel)) ggX5_digest_X5_digestOf
theorem dX5_digest_0 : decode cX5_digest 0 = .ok (.iload_n 1, 1) := by decide +kernel
theorem dX5_digest_1 : decode cX5_digest 1 = .ok (.sipush 4096, 3) := by decide +kernel
theorem dX5_digest_4 : decode cX5_digest 4 = .ok (.invokestatic 63, 3) := by decide +kernel
theorem dX5_digest_7 : decode cX5_digest 7 = .ok (.ifCond .eq 10, 3) := by decide +kernel
theorem dX5_digest_10 : decode cX5_digest 10 = .ok (.iload_n 1, 1) := by decide +kernel
theorem dX5_digest_11 : decode cX5_digest 11 = .ok (.invokestatic 82, 3) := by decide +kernel
theorem dX5_digest_14 : decode cX5_digest 14 = .ok (.goto 5, 3) := by decide +kernel
theorem dX5_digest_17 : decode cX5_digest 17 = .ok (.bipush (-2), 2) := by decide +kernel
theorem dX5_digest_19 : decode cX5_digest 19 = .ok (.ireturn, 1) := by decide +kernel
set_option maxRecDepth 20000 in
theorem ggX5_fragment_X5_isBelow : GoodIn wsX5_fragment wsX5_isBelow := goodIn_r _ [4] (by decide +kernel) (by decide +kernel)
set_option maxRecDepth 20000 in
theorem gX5_fragment_X5_isBelow : GoodIn wsX5_fragment (va_wsS RX5 63 yX5_isBelow wsX5_isBelow) := goodIn_app (goodIn_of _ (by decide +kernel)) ggX5_fragment_X5_isBelow
set_option maxRecDepth 20000 in
theorem ggX5_fragment_X5_wordOf : GoodIn wsX5_fragment wsX5_wordOf := goodIn_r _ [7, 8, 9, 3, 10] (by decide +kernel) (by decide +kernel)
set_option maxRecDepth 20000 in
theorem gX5_fragment_X5_wordOf : GoodIn wsX5_fragment (va_wsS RX5 85 yX5_wordOf wsX5_wordOf) := goodIn_app (goodIn_of _ (by decide +kernel)) ggX5_fragment_X5_wordOf
set_option maxRecDepth 20000 in
theorem ggX5_fragment_X5_fragmentOf : GoodIn wsX5_fragment wsX5_fragmentOf := goodIn_r _ [13] (by decide +kernel) (by decide +kernel)
set_option maxRecDepth 20000 in
theorem gX5_fragment_X5_fragmentOf : GoodIn wsX5_fragment (va_wsS RX5 88 yX5_fragmentOf wsX5_fragmentOf) := goodIn_app (goodIn_of _ (by decide +kernel)) ggX5_fragment_X5_fragmentOf
theorem dX5_fragment_0 : decode cX5_fragment 0 = .ok (.iload_n 1, 1) := by decide +kernel
theorem dX5_fragment_1 : decode cX5_fragment 1 = .ok (.sipush 4096, 3) := by decide +kernel
theorem dX5_fragment_4 : decode cX5_fragment 4 = .ok (.invokestatic 63, 3) := by decide +kernel
theorem dX5_fragment_7 : decode cX5_fragment 7 = .ok (.ifCond .eq 11, 3) := by decide +kernel
theorem dX5_fragment_10 : decode cX5_fragment 10 = .ok (.iload_n 2, 1) := by decide +kernel
theorem dX5_fragment_11 : decode cX5_fragment 11 = .ok (.iconst 4, 1) := by decide +kernel
theorem dX5_fragment_12 : decode cX5_fragment 12 = .ok (.invokestatic 63, 3) := by decide +kernel
theorem dX5_fragment_15 : decode cX5_fragment 15 = .ok (.ifCond .ne 6, 3) := by decide +kernel
theorem dX5_fragment_18 : decode cX5_fragment 18 = .ok (.bipush (-2), 2) := by decide +kernel
theorem dX5_fragment_20 : decode cX5_fragment 20 = .ok (.ireturn, 1) := by decide +kernel
theorem dX5_fragment_21 : decode cX5_fragment 21 = .ok (.iload_n 1, 1) := by decide +kernel
theorem dX5_fragment_22 : decode cX5_fragment 22 = .ok (.invokestatic 85, 3) := by decide +kernel
theorem dX5_fragment_25 : decode cX5_fragment 25 = .ok (.iload_n 2, 1) := by decide +kernel
theorem dX5_fragment_26 : decode cX5_fragment 26 = .ok (.invokestatic 88, 3) := by decide +kernel
theorem dX5_fragment_29 : decode cX5_fragment 29 = .ok (.ireturn, 1) := by decide +kernel
set_option maxRecDepth 20000 in
theorem ggX5_setMarkingPercent_X5_isFromOneTo : GoodIn wsX5_setMarkingPercent wsX5_isFromOneTo := goodIn_r _ [5] (by decide +kernel) (by decide +kernel)
set_option maxRecDepth 20000 in
theorem gX5_setMarkingPercent_X5_isFromOneTo : GoodIn wsX5_setMarkingPercent (va_wsS RX5 91 yX5_isFromOneTo wsX5_isFromOneTo) := goodIn_app (goodIn_of _ (by decide +kernel)) ggX5_setMarkingPercent_X5_isFromOneTo
theorem dX5_setMarkingPercent_0 : decode cX5_setMarkingPercent 0 = .ok (.iload_n 1, 1) := by decide +kernel
theorem dX5_setMarkingPercent_1 : decode cX5_setMarkingPercent 1 = .ok (.bipush 100, 2) := by decide +kernel
theorem dX5_setMarkingPercent_3 : decode cX5_setMarkingPercent 3 = .ok (.invokestatic 91, 3) := by decide +kernel
theorem dX5_setMarkingPercent_6 : decode cX5_setMarkingPercent 6 = .ok (.ifCond .ne 6, 3) := by decide +kernel
theorem dX5_setMarkingPercent_9 : decode cX5_setMarkingPercent 9 = .ok (.bipush (-2), 2) := by decide +kernel
theorem dX5_setMarkingPercent_11 : decode cX5_setMarkingPercent 11 = .ok (.ireturn, 1) := by decide +kernel
theorem dX5_setMarkingPercent_12 : decode cX5_setMarkingPercent 12 = .ok (.aload_n 0, 1) := by decide +kernel
theorem dX5_setMarkingPercent_13 : decode cX5_setMarkingPercent 13 = .ok (.getfield 41, 3) := by decide +kernel
theorem dX5_setMarkingPercent_16 : decode cX5_setMarkingPercent 16 = .ok (.istore_n 2, 1) := by decide +kernel
theorem dX5_setMarkingPercent_17 : decode cX5_setMarkingPercent 17 = .ok (.aload_n 0, 1) := by decide +kernel
theorem dX5_setMarkingPercent_18 : decode cX5_setMarkingPercent 18 = .ok (.iload_n 1, 1) := by decide +kernel
theorem dX5_setMarkingPercent_19 : decode cX5_setMarkingPercent 19 = .ok (.putfield 41, 3) := by decide +kernel
theorem dX5_setMarkingPercent_22 : decode cX5_setMarkingPercent 22 = .ok (.iload_n 2, 1) := by decide +kernel
theorem dX5_setMarkingPercent_23 : decode cX5_setMarkingPercent 23 = .ok (.ireturn, 1) := by decide +kernel
set_option maxRecDepth 20000 in
theorem ggX5_setSeed_X0_restart : GoodIn wsX5_setSeed wsX0_restart := goodIn_r _ [6, 7, 16] (by decide +kernel) (by decide +kernel)
set_option maxRecDepth 20000 in
theorem gX5_setSeed_X0_restart : GoodIn wsX5_setSeed (wsV RX5 94 RX0 yX0_restart wsX0_restart) := goodIn_app (goodIn_of _ (by decide +kernel)) ggX5_setSeed_X0_restart
theorem dX5_setSeed_0 : decode cX5_setSeed 0 = .ok (.aload_n 0, 1) := by decide +kernel
theorem dX5_setSeed_1 : decode cX5_setSeed 1 = .ok (.getfield 19, 3) := by decide +kernel
theorem dX5_setSeed_4 : decode cX5_setSeed 4 = .ok (.iload_n 1, 1) := by decide +kernel
theorem dX5_setSeed_5 : decode cX5_setSeed 5 = .ok (.invokevirtual 94, 3) := by decide +kernel
theorem dX5_setSeed_8 : decode cX5_setSeed 8 = .ok (.ireturn, 1) := by decide +kernel
set_option maxRecDepth 20000 in
theorem ggX5_clearMarks_X1_received : GoodIn wsX5_clearMarks wsX1_received := goodIn_r _ [6, 7, 8, 27, 28, 29, 30] (by decide +kernel) (by decide +kernel)
set_option maxRecDepth 20000 in
theorem gX5_clearMarks_X1_received : GoodIn wsX5_clearMarks (wsV RX5 97 RX1 yX1_received wsX1_received) := goodIn_app (goodIn_of _ (by decide +kernel)) ggX5_clearMarks_X1_received
set_option maxRecDepth 20000 in
theorem ggX5_clearMarks_X1_clear : GoodIn wsX5_clearMarks wsX1_clear := goodIn_r _ [12, 13, 14, 7, 8, 15, 16, 17, 18, 27, 28, 29, 30] (by decide +kernel) (by decide +kernel)
set_option maxRecDepth 20000 in
theorem gX5_clearMarks_X1_clear : GoodIn wsX5_clearMarks (wsV RX5 100 RX1 yX1_clear wsX1_clear) := goodIn_app (goodIn_of _ (by decide +kernel)) ggX5_clearMarks_X1_clear
theorem dX5_clearMarks_0 : decode cX5_clearMarks 0 = .ok (.aload_n 0, 1) := by decide +kernel
theorem dX5_clearMarks_1 : decode cX5_clearMarks 1 = .ok (.getfield 33, 3) := by decide +kernel
theorem dX5_clearMarks_4 : decode cX5_clearMarks 4 = .ok (.invokevirtual 97, 3) := by decide +kernel
theorem dX5_clearMarks_7 : decode cX5_clearMarks 7 = .ok (.istore_n 1, 1) := by decide +kernel
theorem dX5_clearMarks_8 : decode cX5_clearMarks 8 = .ok (.aload_n 0, 1) := by decide +kernel
theorem dX5_clearMarks_9 : decode cX5_clearMarks 9 = .ok (.getfield 33, 3) := by decide +kernel
theorem dX5_clearMarks_12 : decode cX5_clearMarks 12 = .ok (.invokevirtual 100, 3) := by decide +kernel
theorem dX5_clearMarks_15 : decode cX5_clearMarks 15 = .ok (.iload_n 1, 1) := by decide +kernel
theorem dX5_clearMarks_16 : decode cX5_clearMarks 16 = .ok (.ireturn, 1) := by decide +kernel
set_option maxRecDepth 20000 in
theorem ggX5_sendPackets_X2_has : GoodIn wsX5_sendPackets wsX2_has := goodIn_r _ [7, 8, 9, 10, 11, 125, 126, 127, 128] (by decide +kernel) (by decide +kernel)
set_option maxRecDepth 20000 in
theorem gX5_sendPackets_X2_has : GoodIn wsX5_sendPackets (wsV RX5 59 RX2 yX2_has wsX2_has) := goodIn_app (goodIn_of _ (by decide +kernel)) ggX5_sendPackets_X2_has
set_option maxRecDepth 20000 in
theorem ggX5_sendPackets_X5_isFromOneTo : GoodIn wsX5_sendPackets wsX5_isFromOneTo := goodIn_r _ [14] (by decide +kernel) (by decide +kernel)
set_option maxRecDepth 20000 in
theorem gX5_sendPackets_X5_isFromOneTo : GoodIn wsX5_sendPackets (va_wsS RX5 91 yX5_isFromOneTo wsX5_isFromOneTo) := goodIn_app (goodIn_of _ (by decide +kernel)) ggX5_sendPackets_X5_isFromOneTo
set_option maxRecDepth 20000 in
theorem ggX5_sendPackets_X4_startUnmarked : GoodIn wsX5_sendPackets wsX4_startUnmarked := goodIn_r _ [19, 20, 21, 22, 23, 24, 18, 25, 26, 27, 28, 129, 130, 131, 132, 133] (by decide +kernel) (by decide +kernel)
set_option maxRecDepth 20000 in
theorem gX5_sendPackets_X4_startUnmarked : GoodIn wsX5_sendPackets (wsV RX5 103 RX4 yX4_startUnmarked wsX4_startUnmarked) := goodIn_app (goodIn_of _ (by decide +kernel)) ggX5_sendPackets_X4_startUnmarked
set_option maxRecDepth 20000 in
theorem ggX5_sendPackets_X5_deliver : GoodIn wsX5_sendPackets wsX5_deliver := goodIn_r _ [32, 33, 2, 34, 35, 36, 10, 37, 1, 3, 4, 5, 6, 7, 8, 9, 11, 38, 39, 40, 41, 42, 43, 44, 45, 46, 47, 48, 49, 50, 51, 52, 53, 54, 55, 56, 57, 58, 59, 60, 61, 62, 63, 64, 65, 66, 67, 68, 69, 70, 71, 18, 72, 20, 21, 22, 23, 24, 25, 26, 27, 28, 73, 74, 75, 76, 77, 78, 79, 80, 81, 82, 83, 84, 85, 86, 87, 88, 89, 90, 91, 92, 93, 94, 95, 96, 97, 98, 99, 100, 101, 102, 103, 104, 105, 106, 107, 108, 109, 110, 111, 112, 113, 114, 115, 116, 117, 118, 119, 120, 121, 122, 123, 124, 125, 126, 127, 128, 134, 129, 130, 131, 132, 133, 135, 136, 137, 138] (by decide +kernel) (by decide +kernel)
set_option maxRecDepth 20000 in
theorem gX5_sendPackets_X5_deliver : GoodIn wsX5_sendPackets (wsV RX5 106 RX5 yX5_deliver wsX5_deliver) := goodIn_app (goodIn_of _ (by decide +kernel)) ggX5_sendPackets_X5_deliver
theorem dX5_sendPackets_0 : decode cX5_sendPackets 0 = .ok (.aload_n 0, 1) := by decide +kernel
theorem dX5_sendPackets_1 : decode cX5_sendPackets 1 = .ok (.getfield 10, 3) := by decide +kernel
theorem dX5_sendPackets_4 : decode cX5_sendPackets 4 = .ok (.iload_n 1, 1) := by decide +kernel
theorem dX5_sendPackets_5 : decode cX5_sendPackets 5 = .ok (.invokevirtual 59, 3) := by decide +kernel
theorem dX5_sendPackets_8 : decode cX5_sendPackets 8 = .ok (.ifCond .ne 5, 3) := by decide +kernel
theorem dX5_sendPackets_11 : decode cX5_sendPackets 11 = .ok (.iconst (-1), 1) := by decide +kernel
theorem dX5_sendPackets_12 : decode cX5_sendPackets 12 = .ok (.ireturn, 1) := by decide +kernel
theorem dX5_sendPackets_13 : decode cX5_sendPackets 13 = .ok (.iload_n 2, 1) := by decide +kernel
theorem dX5_sendPackets_14 : decode cX5_sendPackets 14 = .ok (.sipush 500, 3) := by decide +kernel
theorem dX5_sendPackets_17 : decode cX5_sendPackets 17 = .ok (.invokestatic 91, 3) := by decide +kernel
theorem dX5_sendPackets_20 : decode cX5_sendPackets 20 = .ok (.ifCond .ne 6, 3) := by decide +kernel
theorem dX5_sendPackets_23 : decode cX5_sendPackets 23 = .ok (.bipush (-2), 2) := by decide +kernel
theorem dX5_sendPackets_25 : decode cX5_sendPackets 25 = .ok (.ireturn, 1) := by decide +kernel
theorem dX5_sendPackets_26 : decode cX5_sendPackets 26 = .ok (.iconst 0, 1) := by decide +kernel
theorem dX5_sendPackets_27 : decode cX5_sendPackets 27 = .ok (.istore_n 3, 1) := by decide +kernel
theorem dX5_sendPackets_28 : decode cX5_sendPackets 28 = .ok (.iconst 0, 1) := by decide +kernel
theorem dX5_sendPackets_29 : decode cX5_sendPackets 29 = .ok (.istore 4, 2) := by decide +kernel
theorem dX5_sendPackets_31 : decode cX5_sendPackets 31 = .ok (.iload 4, 2) := by decide +kernel
theorem dX5_sendPackets_33 : decode cX5_sendPackets 33 = .ok (.iload_n 2, 1) := by decide +kernel
theorem dX5_sendPackets_34 : decode cX5_sendPackets 34 = .ok (.if_icmp .ge 24, 3) := by decide +kernel
theorem dX5_sendPackets_37 : decode cX5_sendPackets 37 = .ok (.aload_n 0, 1) := by decide +kernel
theorem dX5_sendPackets_38 : decode cX5_sendPackets 38 = .ok (.getfield 26, 3) := by decide +kernel
theorem dX5_sendPackets_41 : decode cX5_sendPackets 41 = .ok (.invokevirtual 103, 3) := by decide +kernel
theorem dX5_sendPackets_44 : decode cX5_sendPackets 44 = .ok (.iload_n 3, 1) := by decide +kernel
theorem dX5_sendPackets_45 : decode cX5_sendPackets 45 = .ok (.aload_n 0, 1) := by decide +kernel
theorem dX5_sendPackets_46 : decode cX5_sendPackets 46 = .ok (.iload_n 1, 1) := by decide +kernel
theorem dX5_sendPackets_47 : decode cX5_sendPackets 47 = .ok (.invokevirtual 106, 3) := by decide +kernel
theorem dX5_sendPackets_50 : decode cX5_sendPackets 50 = .ok (.iadd, 1) := by decide +kernel
theorem dX5_sendPackets_51 : decode cX5_sendPackets 51 = .ok (.istore_n 3, 1) := by decide +kernel
theorem dX5_sendPackets_52 : decode cX5_sendPackets 52 = .ok (.iinc 4 1, 3) := by decide +kernel
theorem dX5_sendPackets_55 : decode cX5_sendPackets 55 = .ok (.goto (-24), 3) := by decide +kernel
theorem dX5_sendPackets_58 : decode cX5_sendPackets 58 = .ok (.iload_n 3, 1) := by decide +kernel
theorem dX5_sendPackets_59 : decode cX5_sendPackets 59 = .ok (.ireturn, 1) := by decide +kernel
set_option maxRecDepth 20000 in
theorem ggX5_sendForged_X2_has : GoodIn wsX5_sendForged wsX2_has := goodIn_r _ [7, 8, 9, 10, 11, 129, 130, 131, 132] (by decide +kernel) (by decide +kernel)
set_option maxRecDepth 20000 in
theorem gX5_sendForged_X2_has : GoodIn wsX5_sendForged (wsV RX5 59 RX2 yX2_has wsX2_has) := goodIn_app (goodIn_of _ (by decide +kernel)) ggX5_sendForged_X2_has
set_option maxRecDepth 20000 in
theorem ggX5_sendForged_X5_isFromOneTo : GoodIn wsX5_sendForged wsX5_isFromOneTo := goodIn_r _ [14] (by decide +kernel) (by decide +kernel)
set_option maxRecDepth 20000 in
theorem gX5_sendForged_X5_isFromOneTo : GoodIn wsX5_sendForged (va_wsS RX5 91 yX5_isFromOneTo wsX5_isFromOneTo) := goodIn_app (goodIn_of _ (by decide +kernel)) ggX5_sendForged_X5_isFromOneTo
set_option maxRecDepth 20000 in
theorem ggX5_sendForged_X5_isMark : GoodIn wsX5_sendForged wsX5_isMark := goodIn_r _ [17, 18, 9, 10, 11] (by decide +kernel) (by decide +kernel)
set_option maxRecDepth 20000 in
theorem gX5_sendForged_X5_isMark : GoodIn wsX5_sendForged (va_wsS RX5 109 yX5_isMark wsX5_isMark) := goodIn_app (goodIn_of _ (by decide +kernel)) ggX5_sendForged_X5_isMark
set_option maxRecDepth 20000 in
theorem ggX5_sendForged_X4_startForged : GoodIn wsX5_sendForged wsX4_startForged := goodIn_r _ [23, 24, 25, 26, 27, 28, 22, 29, 30, 31, 32, 133, 134, 135, 136, 137] (by decide +kernel) (by decide +kernel)
set_option maxRecDepth 20000 in
theorem gX5_sendForged_X4_startForged : GoodIn wsX5_sendForged (wsV RX5 113 RX4 yX4_startForged wsX4_startForged) := goodIn_app (goodIn_of _ (by decide +kernel)) ggX5_sendForged_X4_startForged
set_option maxRecDepth 20000 in
theorem ggX5_sendForged_X5_deliver : GoodIn wsX5_sendForged wsX5_deliver := goodIn_r _ [36, 37, 2, 38, 39, 40, 10, 41, 1, 3, 4, 5, 6, 7, 8, 9, 11, 42, 43, 44, 45, 46, 47, 48, 49, 50, 51, 52, 53, 54, 55, 56, 57, 58, 59, 60, 61, 62, 63, 64, 65, 66, 67, 68, 69, 70, 71, 72, 73, 74, 75, 22, 76, 24, 25, 26, 27, 28, 29, 30, 31, 32, 77, 78, 79, 80, 81, 82, 83, 84, 85, 86, 87, 88, 89, 90, 91, 92, 93, 94, 95, 96, 97, 98, 99, 100, 101, 102, 103, 104, 105, 106, 107, 108, 109, 110, 111, 112, 113, 114, 115, 116, 117, 118, 119, 120, 121, 122, 123, 124, 125, 126, 127, 128, 129, 130, 131, 132, 138, 133, 134, 135, 136, 137, 139, 140, 141, 142] (by decide +kernel) (by decide +kernel)
set_option maxRecDepth 20000 in
theorem gX5_sendForged_X5_deliver : GoodIn wsX5_sendForged (wsV RX5 106 RX5 yX5_deliver wsX5_deliver) := goodIn_app (goodIn_of _ (by decide +kernel)) ggX5_sendForged_X5_deliver
theorem dX5_sendForged_0 : decode cX5_sendForged 0 = .ok (.aload_n 0, 1) := by decide +kernel
theorem dX5_sendForged_1 : decode cX5_sendForged 1 = .ok (.getfield 10, 3) := by decide +kernel
theorem dX5_sendForged_4 : decode cX5_sendForged 4 = .ok (.iload_n 1, 1) := by decide +kernel
theorem dX5_sendForged_5 : decode cX5_sendForged 5 = .ok (.invokevirtual 59, 3) := by decide +kernel
theorem dX5_sendForged_8 : decode cX5_sendForged 8 = .ok (.ifCond .ne 5, 3) := by decide +kernel
theorem dX5_sendForged_11 : decode cX5_sendForged 11 = .ok (.iconst (-1), 1) := by decide +kernel
theorem dX5_sendForged_12 : decode cX5_sendForged 12 = .ok (.ireturn, 1) := by decide +kernel
theorem dX5_sendForged_13 : decode cX5_sendForged 13 = .ok (.iload_n 2, 1) := by decide +kernel
theorem dX5_sendForged_14 : decode cX5_sendForged 14 = .ok (.sipush 500, 3) := by decide +kernel
theorem dX5_sendForged_17 : decode cX5_sendForged 17 = .ok (.invokestatic 91, 3) := by decide +kernel
theorem dX5_sendForged_20 : decode cX5_sendForged 20 = .ok (.ifCond .eq 14, 3) := by decide +kernel
theorem dX5_sendForged_23 : decode cX5_sendForged 23 = .ok (.iload_n 3, 1) := by decide +kernel
theorem dX5_sendForged_24 : decode cX5_sendForged 24 = .ok (.iload 4, 2) := by decide +kernel
theorem dX5_sendForged_26 : decode cX5_sendForged 26 = .ok (.iload 5, 2) := by decide +kernel
theorem dX5_sendForged_28 : decode cX5_sendForged 28 = .ok (.invokestatic 109, 3) := by decide +kernel
theorem dX5_sendForged_31 : decode cX5_sendForged 31 = .ok (.ifCond .ne 6, 3) := by decide +kernel
theorem dX5_sendForged_34 : decode cX5_sendForged 34 = .ok (.bipush (-2), 2) := by decide +kernel
theorem dX5_sendForged_36 : decode cX5_sendForged 36 = .ok (.ireturn, 1) := by decide +kernel
theorem dX5_sendForged_37 : decode cX5_sendForged 37 = .ok (.iconst 0, 1) := by decide +kernel
theorem dX5_sendForged_38 : decode cX5_sendForged 38 = .ok (.istore 6, 2) := by decide +kernel
theorem dX5_sendForged_40 : decode cX5_sendForged 40 = .ok (.iconst 0, 1) := by decide +kernel
theorem dX5_sendForged_41 : decode cX5_sendForged 41 = .ok (.istore 7, 2) := by decide +kernel
theorem dX5_sendForged_43 : decode cX5_sendForged 43 = .ok (.iload 7, 2) := by decide +kernel
theorem dX5_sendForged_45 : decode cX5_sendForged 45 = .ok (.iload_n 2, 1) := by decide +kernel
theorem dX5_sendForged_46 : decode cX5_sendForged 46 = .ok (.if_icmp .ge 31, 3) := by decide +kernel
theorem dX5_sendForged_49 : decode cX5_sendForged 49 = .ok (.aload_n 0, 1) := by decide +kernel
theorem dX5_sendForged_50 : decode cX5_sendForged 50 = .ok (.getfield 26, 3) := by decide +kernel
theorem dX5_sendForged_53 : decode cX5_sendForged 53 = .ok (.iload_n 3, 1) := by decide +kernel
theorem dX5_sendForged_54 : decode cX5_sendForged 54 = .ok (.iload 4, 2) := by decide +kernel
theorem dX5_sendForged_56 : decode cX5_sendForged 56 = .ok (.iload 5, 2) := by decide +kernel
theorem dX5_sendForged_58 : decode cX5_sendForged 58 = .ok (.invokevirtual 113, 3) := by decide +kernel
theorem dX5_sendForged_61 : decode cX5_sendForged 61 = .ok (.iload 6, 2) := by decide +kernel
theorem dX5_sendForged_63 : decode cX5_sendForged 63 = .ok (.aload_n 0, 1) := by decide +kernel
theorem dX5_sendForged_64 : decode cX5_sendForged 64 = .ok (.iload_n 1, 1) := by decide +kernel
theorem dX5_sendForged_65 : decode cX5_sendForged 65 = .ok (.invokevirtual 106, 3) := by decide +kernel
theorem dX5_sendForged_68 : decode cX5_sendForged 68 = .ok (.iadd, 1) := by decide +kernel
theorem dX5_sendForged_69 : decode cX5_sendForged 69 = .ok (.istore 6, 2) := by decide +kernel
theorem dX5_sendForged_71 : decode cX5_sendForged 71 = .ok (.iinc 7 1, 3) := by decide +kernel
theorem dX5_sendForged_74 : decode cX5_sendForged 74 = .ok (.goto (-31), 3) := by decide +kernel
theorem dX5_sendForged_77 : decode cX5_sendForged 77 = .ok (.iload 6, 2) := by decide +kernel
theorem dX5_sendForged_79 : decode cX5_sendForged 79 = .ok (.ireturn, 1) := by decide +kernel
set_option maxRecDepth 20000 in
theorem ggX5_packetsAtDistance_X5_isBelow : GoodIn wsX5_packetsAtDistance wsX5_isBelow := goodIn_r _ [5] (by decide +kernel) (by decide +kernel)
set_option maxRecDepth 20000 in
theorem gX5_packetsAtDistance_X5_isBelow : GoodIn wsX5_packetsAtDistance (va_wsS RX5 63 yX5_isBelow wsX5_isBelow) := goodIn_app (goodIn_of _ (by decide +kernel)) ggX5_packetsAtDistance_X5_isBelow
set_option maxRecDepth 20000 in
theorem ggX5_packetsAtDistance_X1_countAt : GoodIn wsX5_packetsAtDistance wsX1_countAt := goodIn_r _ [10, 11, 12, 13, 9, 14, 15, 16, 17, 18, 19, 20, 21, 30, 31, 32, 33] (by decide +kernel) (by decide +kernel)
set_option maxRecDepth 20000 in
theorem gX5_packetsAtDistance_X1_countAt : GoodIn wsX5_packetsAtDistance (wsV RX5 117 RX1 yX1_countAt wsX1_countAt) := goodIn_app (goodIn_of _ (by decide +kernel)) ggX5_packetsAtDistance_X1_countAt
theorem dX5_packetsAtDistance_0 : decode cX5_packetsAtDistance 0 = .ok (.iload_n 1, 1) := by decide +kernel
theorem dX5_packetsAtDistance_1 : decode cX5_packetsAtDistance 1 = .ok (.bipush 32, 2) := by decide +kernel
theorem dX5_packetsAtDistance_3 : decode cX5_packetsAtDistance 3 = .ok (.invokestatic 63, 3) := by decide +kernel
theorem dX5_packetsAtDistance_6 : decode cX5_packetsAtDistance 6 = .ok (.ifCond .eq 14, 3) := by decide +kernel
theorem dX5_packetsAtDistance_9 : decode cX5_packetsAtDistance 9 = .ok (.aload_n 0, 1) := by decide +kernel
theorem dX5_packetsAtDistance_10 : decode cX5_packetsAtDistance 10 = .ok (.getfield 33, 3) := by decide +kernel
theorem dX5_packetsAtDistance_13 : decode cX5_packetsAtDistance 13 = .ok (.iload_n 1, 1) := by decide +kernel
theorem dX5_packetsAtDistance_14 : decode cX5_packetsAtDistance 14 = .ok (.invokevirtual 117, 3) := by decide +kernel
theorem dX5_packetsAtDistance_17 : decode cX5_packetsAtDistance 17 = .ok (.goto 5, 3) := by decide +kernel
theorem dX5_packetsAtDistance_20 : decode cX5_packetsAtDistance 20 = .ok (.bipush (-2), 2) := by decide +kernel
theorem dX5_packetsAtDistance_22 : decode cX5_packetsAtDistance 22 = .ok (.ireturn, 1) := by decide +kernel
set_option maxRecDepth 20000 in
theorem ggX5_unmarkedCount_X1_unmarked : GoodIn wsX5_unmarkedCount wsX1_unmarked := goodIn_r _ [6, 7, 16, 17, 18, 19] (by decide +kernel) (by decide +kernel)
set_option maxRecDepth 20000 in
theorem gX5_unmarkedCount_X1_unmarked : GoodIn wsX5_unmarkedCount (wsV RX5 120 RX1 yX1_unmarked wsX1_unmarked) := goodIn_app (goodIn_of _ (by decide +kernel)) ggX5_unmarkedCount_X1_unmarked
theorem dX5_unmarkedCount_0 : decode cX5_unmarkedCount 0 = .ok (.aload_n 0, 1) := by decide +kernel
theorem dX5_unmarkedCount_1 : decode cX5_unmarkedCount 1 = .ok (.getfield 33, 3) := by decide +kernel
theorem dX5_unmarkedCount_4 : decode cX5_unmarkedCount 4 = .ok (.invokevirtual 120, 3) := by decide +kernel
theorem dX5_unmarkedCount_7 : decode cX5_unmarkedCount 7 = .ok (.ireturn, 1) := by decide +kernel
set_option maxRecDepth 20000 in
theorem ggX5_markCount_X5_isMark : GoodIn wsX5_markCount wsX5_isMark := goodIn_r _ [5, 6, 7, 4, 8] (by decide +kernel) (by decide +kernel)
set_option maxRecDepth 20000 in
theorem gX5_markCount_X5_isMark : GoodIn wsX5_markCount (va_wsS RX5 109 yX5_isMark wsX5_isMark) := goodIn_app (goodIn_of _ (by decide +kernel)) ggX5_markCount_X5_isMark
set_option maxRecDepth 20000 in
theorem ggX5_markCount_X1_countOf : GoodIn wsX5_markCount wsX1_countOf := goodIn_r _ [13, 14, 15, 16, 12, 17, 18, 19, 20, 29, 30, 31, 32] (by decide +kernel) (by decide +kernel)
set_option maxRecDepth 20000 in
theorem gX5_markCount_X1_countOf : GoodIn wsX5_markCount (wsV RX5 123 RX1 yX1_countOf wsX1_countOf) := goodIn_app (goodIn_of _ (by decide +kernel)) ggX5_markCount_X1_countOf
theorem dX5_markCount_0 : decode cX5_markCount 0 = .ok (.iload_n 1, 1) := by decide +kernel
theorem dX5_markCount_1 : decode cX5_markCount 1 = .ok (.iload_n 2, 1) := by decide +kernel
theorem dX5_markCount_2 : decode cX5_markCount 2 = .ok (.iload_n 3, 1) := by decide +kernel
theorem dX5_markCount_3 : decode cX5_markCount 3 = .ok (.invokestatic 109, 3) := by decide +kernel
theorem dX5_markCount_6 : decode cX5_markCount 6 = .ok (.ifCond .eq 16, 3) := by decide +kernel
theorem dX5_markCount_9 : decode cX5_markCount 9 = .ok (.aload_n 0, 1) := by decide +kernel
theorem dX5_markCount_10 : decode cX5_markCount 10 = .ok (.getfield 33, 3) := by decide +kernel
theorem dX5_markCount_13 : decode cX5_markCount 13 = .ok (.iload_n 1, 1) := by decide +kernel
theorem dX5_markCount_14 : decode cX5_markCount 14 = .ok (.iload_n 2, 1) := by decide +kernel
theorem dX5_markCount_15 : decode cX5_markCount 15 = .ok (.iload_n 3, 1) := by decide +kernel
theorem dX5_markCount_16 : decode cX5_markCount 16 = .ok (.invokevirtual 123, 3) := by decide +kernel
theorem dX5_markCount_19 : decode cX5_markCount 19 = .ok (.goto 5, 3) := by decide +kernel
theorem dX5_markCount_22 : decode cX5_markCount 22 = .ok (.bipush (-2), 2) := by decide +kernel
theorem dX5_markCount_24 : decode cX5_markCount 24 = .ok (.ireturn, 1) := by decide +kernel
set_option maxRecDepth 20000 in
theorem ggX5_fragmentCount_X5_isBelow : GoodIn wsX5_fragmentCount wsX5_isBelow := goodIn_r _ [5] (by decide +kernel) (by decide +kernel)
set_option maxRecDepth 20000 in
theorem gX5_fragmentCount_X5_isBelow : GoodIn wsX5_fragmentCount (va_wsS RX5 63 yX5_isBelow wsX5_isBelow) := goodIn_app (goodIn_of _ (by decide +kernel)) ggX5_fragmentCount_X5_isBelow
set_option maxRecDepth 20000 in
theorem ggX5_fragmentCount_X1_differentFragments : GoodIn wsX5_fragmentCount wsX1_differentFragments := goodIn_r _ [10, 11, 12, 13, 9, 14, 15, 16, 17, 18, 19, 20, 21, 30, 31, 32, 33] (by decide +kernel) (by decide +kernel)
set_option maxRecDepth 20000 in
theorem gX5_fragmentCount_X1_differentFragments : GoodIn wsX5_fragmentCount (wsV RX5 127 RX1 yX1_differentFragments wsX1_differentFragments) := goodIn_app (goodIn_of _ (by decide +kernel)) ggX5_fragmentCount_X1_differentFragments
theorem dX5_fragmentCount_0 : decode cX5_fragmentCount 0 = .ok (.iload_n 1, 1) := by decide +kernel
theorem dX5_fragmentCount_1 : decode cX5_fragmentCount 1 = .ok (.bipush 32, 2) := by decide +kernel
theorem dX5_fragmentCount_3 : decode cX5_fragmentCount 3 = .ok (.invokestatic 63, 3) := by decide +kernel
theorem dX5_fragmentCount_6 : decode cX5_fragmentCount 6 = .ok (.ifCond .eq 11, 3) := by decide +kernel
theorem dX5_fragmentCount_9 : decode cX5_fragmentCount 9 = .ok (.iload_n 2, 1) := by decide +kernel
theorem dX5_fragmentCount_10 : decode cX5_fragmentCount 10 = .ok (.iconst 4, 1) := by decide +kernel
theorem dX5_fragmentCount_11 : decode cX5_fragmentCount 11 = .ok (.invokestatic 63, 3) := by decide +kernel
theorem dX5_fragmentCount_14 : decode cX5_fragmentCount 14 = .ok (.ifCond .ne 6, 3) := by decide +kernel
theorem dX5_fragmentCount_17 : decode cX5_fragmentCount 17 = .ok (.bipush (-2), 2) := by decide +kernel
theorem dX5_fragmentCount_19 : decode cX5_fragmentCount 19 = .ok (.ireturn, 1) := by decide +kernel
theorem dX5_fragmentCount_20 : decode cX5_fragmentCount 20 = .ok (.aload_n 0, 1) := by decide +kernel
theorem dX5_fragmentCount_21 : decode cX5_fragmentCount 21 = .ok (.getfield 33, 3) := by decide +kernel
theorem dX5_fragmentCount_24 : decode cX5_fragmentCount 24 = .ok (.iload_n 1, 1) := by decide +kernel
theorem dX5_fragmentCount_25 : decode cX5_fragmentCount 25 = .ok (.iload_n 2, 1) := by decide +kernel
theorem dX5_fragmentCount_26 : decode cX5_fragmentCount 26 = .ok (.invokevirtual 127, 3) := by decide +kernel
theorem dX5_fragmentCount_29 : decode cX5_fragmentCount 29 = .ok (.ireturn, 1) := by decide +kernel
set_option maxRecDepth 20000 in
theorem ggX5_greatestDistance_X1_hasDistance : GoodIn wsX5_greatestDistance wsX1_hasDistance := goodIn_r _ [6, 7, 8, 9, 5, 10, 19, 20, 21, 22] (by decide +kernel) (by decide +kernel)
set_option maxRecDepth 20000 in
theorem gX5_greatestDistance_X1_hasDistance : GoodIn wsX5_greatestDistance (wsV RX5 130 RX1 yX1_hasDistance wsX1_hasDistance) := goodIn_app (goodIn_of _ (by decide +kernel)) ggX5_greatestDistance_X1_hasDistance
theorem dX5_greatestDistance_0 : decode cX5_greatestDistance 0 = .ok (.bipush 31, 2) := by decide +kernel
theorem dX5_greatestDistance_2 : decode cX5_greatestDistance 2 = .ok (.istore_n 1, 1) := by decide +kernel
theorem dX5_greatestDistance_3 : decode cX5_greatestDistance 3 = .ok (.iload_n 1, 1) := by decide +kernel
theorem dX5_greatestDistance_4 : decode cX5_greatestDistance 4 = .ok (.ifCond .lt 22, 3) := by decide +kernel
theorem dX5_greatestDistance_7 : decode cX5_greatestDistance 7 = .ok (.aload_n 0, 1) := by decide +kernel
theorem dX5_greatestDistance_8 : decode cX5_greatestDistance 8 = .ok (.getfield 33, 3) := by decide +kernel
theorem dX5_greatestDistance_11 : decode cX5_greatestDistance 11 = .ok (.iload_n 1, 1) := by decide +kernel
theorem dX5_greatestDistance_12 : decode cX5_greatestDistance 12 = .ok (.invokevirtual 130, 3) := by decide +kernel
theorem dX5_greatestDistance_15 : decode cX5_greatestDistance 15 = .ok (.ifCond .eq 5, 3) := by decide +kernel
theorem dX5_greatestDistance_18 : decode cX5_greatestDistance 18 = .ok (.iload_n 1, 1) := by decide +kernel
theorem dX5_greatestDistance_19 : decode cX5_greatestDistance 19 = .ok (.ireturn, 1) := by decide +kernel
theorem dX5_greatestDistance_20 : decode cX5_greatestDistance 20 = .ok (.iinc 1 (-1), 3) := by decide +kernel
theorem dX5_greatestDistance_23 : decode cX5_greatestDistance 23 = .ok (.goto (-20), 3) := by decide +kernel
theorem dX5_greatestDistance_26 : decode cX5_greatestDistance 26 = .ok (.bipush (-7), 2) := by decide +kernel
theorem dX5_greatestDistance_28 : decode cX5_greatestDistance 28 = .ok (.ireturn, 1) := by decide +kernel
set_option maxRecDepth 20000 in
theorem ggX5_isPathComplete_X2_has : GoodIn wsX5_isPathComplete wsX2_has := goodIn_r _ [7, 8, 9, 10, 11, 65, 66, 67, 68] (by decide +kernel) (by decide +kernel)
set_option maxRecDepth 20000 in
theorem gX5_isPathComplete_X2_has : GoodIn wsX5_isPathComplete (wsV RX5 59 RX2 yX2_has wsX2_has) := goodIn_app (goodIn_of _ (by decide +kernel)) ggX5_isPathComplete_X2_has
set_option maxRecDepth 20000 in
theorem ggX5_isPathComplete_X2_depthOf : GoodIn wsX5_isPathComplete wsX2_depthOf := goodIn_r _ [15, 16, 17, 4, 5, 6, 7, 8, 9, 10, 11, 65, 66, 67, 68] (by decide +kernel) (by decide +kernel)
set_option maxRecDepth 20000 in
theorem gX5_isPathComplete_X2_depthOf : GoodIn wsX5_isPathComplete (wsV RX5 79 RX2 yX2_depthOf wsX2_depthOf) := goodIn_app (goodIn_of _ (by decide +kernel)) ggX5_isPathComplete_X2_depthOf
set_option maxRecDepth 20000 in
theorem ggX5_isPathComplete_X2_trueMarksOf : GoodIn wsX5_isPathComplete wsX2_trueMarksOf := goodIn_r _ [21, 22, 23, 24, 6, 25, 26, 17, 4, 5, 7, 8, 9, 10, 11, 27, 28, 29, 30, 31, 32, 33, 34, 35, 36, 37, 38, 39, 40, 65, 66, 67, 68] (by decide +kernel) (by decide +kernel)
set_option maxRecDepth 20000 in
theorem gX5_isPathComplete_X2_trueMarksOf : GoodIn wsX5_isPathComplete (wsV RX5 133 RX2 yX2_trueMarksOf wsX2_trueMarksOf) := goodIn_app (goodIn_of _ (by decide +kernel)) ggX5_isPathComplete_X2_trueMarksOf
set_option maxRecDepth 20000 in
theorem ggX5_isPathComplete_X1_holdsWord : GoodIn wsX5_isPathComplete wsX1_holdsWord := goodIn_r _ [45, 46, 47, 48, 44, 49, 50, 51, 52, 53, 54, 10, 55, 69, 70, 71, 72] (by decide +kernel) (by decide +kernel)
set_option maxRecDepth 20000 in
theorem gX5_isPathComplete_X1_holdsWord : GoodIn wsX5_isPathComplete (wsV RX5 136 RX1 yX1_holdsWord wsX1_holdsWord) := goodIn_app (goodIn_of _ (by decide +kernel)) ggX5_isPathComplete_X1_holdsWord
set_option maxRecDepth 20000 in
theorem ggX5_isPathComplete_X2_parentOf : GoodIn wsX5_isPathComplete wsX2_parentOf := goodIn_r _ [25, 26, 17, 4, 5, 6, 7, 8, 9, 10, 11, 65, 66, 67, 68] (by decide +kernel) (by decide +kernel)
set_option maxRecDepth 20000 in
theorem gX5_isPathComplete_X2_parentOf : GoodIn wsX5_isPathComplete (wsV RX5 139 RX2 yX2_parentOf wsX2_parentOf) := goodIn_app (goodIn_of _ (by decide +kernel)) ggX5_isPathComplete_X2_parentOf
theorem dX5_isPathComplete_0 : decode cX5_isPathComplete 0 = .ok (.aload_n 0, 1) := by decide +kernel
theorem dX5_isPathComplete_1 : decode cX5_isPathComplete 1 = .ok (.getfield 10, 3) := by decide +kernel
theorem dX5_isPathComplete_4 : decode cX5_isPathComplete 4 = .ok (.iload_n 1, 1) := by decide +kernel
theorem dX5_isPathComplete_5 : decode cX5_isPathComplete 5 = .ok (.invokevirtual 59, 3) := by decide +kernel
theorem dX5_isPathComplete_8 : decode cX5_isPathComplete 8 = .ok (.ifCond .ne 5, 3) := by decide +kernel
theorem dX5_isPathComplete_11 : decode cX5_isPathComplete 11 = .ok (.iconst (-1), 1) := by decide +kernel
theorem dX5_isPathComplete_12 : decode cX5_isPathComplete 12 = .ok (.ireturn, 1) := by decide +kernel
theorem dX5_isPathComplete_13 : decode cX5_isPathComplete 13 = .ok (.iload_n 1, 1) := by decide +kernel
theorem dX5_isPathComplete_14 : decode cX5_isPathComplete 14 = .ok (.istore_n 2, 1) := by decide +kernel
theorem dX5_isPathComplete_15 : decode cX5_isPathComplete 15 = .ok (.iconst 0, 1) := by decide +kernel
theorem dX5_isPathComplete_16 : decode cX5_isPathComplete 16 = .ok (.istore_n 3, 1) := by decide +kernel
theorem dX5_isPathComplete_17 : decode cX5_isPathComplete 17 = .ok (.iload_n 3, 1) := by decide +kernel
theorem dX5_isPathComplete_18 : decode cX5_isPathComplete 18 = .ok (.bipush 20, 2) := by decide +kernel
theorem dX5_isPathComplete_20 : decode cX5_isPathComplete 20 = .ok (.if_icmp .ge 57, 3) := by decide +kernel
theorem dX5_isPathComplete_23 : decode cX5_isPathComplete 23 = .ok (.aload_n 0, 1) := by decide +kernel
theorem dX5_isPathComplete_24 : decode cX5_isPathComplete 24 = .ok (.getfield 10, 3) := by decide +kernel
theorem dX5_isPathComplete_27 : decode cX5_isPathComplete 27 = .ok (.iload_n 2, 1) := by decide +kernel
theorem dX5_isPathComplete_28 : decode cX5_isPathComplete 28 = .ok (.invokevirtual 59, 3) := by decide +kernel
theorem dX5_isPathComplete_31 : decode cX5_isPathComplete 31 = .ok (.ifCond .eq 46, 3) := by decide +kernel
theorem dX5_isPathComplete_34 : decode cX5_isPathComplete 34 = .ok (.aload_n 0, 1) := by decide +kernel
theorem dX5_isPathComplete_35 : decode cX5_isPathComplete 35 = .ok (.getfield 33, 3) := by decide +kernel
theorem dX5_isPathComplete_38 : decode cX5_isPathComplete 38 = .ok (.aload_n 0, 1) := by decide +kernel
theorem dX5_isPathComplete_39 : decode cX5_isPathComplete 39 = .ok (.getfield 10, 3) := by decide +kernel
theorem dX5_isPathComplete_42 : decode cX5_isPathComplete 42 = .ok (.iload_n 2, 1) := by decide +kernel
theorem dX5_isPathComplete_43 : decode cX5_isPathComplete 43 = .ok (.invokevirtual 79, 3) := by decide +kernel
theorem dX5_isPathComplete_46 : decode cX5_isPathComplete 46 = .ok (.aload_n 0, 1) := by decide +kernel
theorem dX5_isPathComplete_47 : decode cX5_isPathComplete 47 = .ok (.getfield 10, 3) := by decide +kernel
theorem dX5_isPathComplete_50 : decode cX5_isPathComplete 50 = .ok (.iload_n 2, 1) := by decide +kernel
theorem dX5_isPathComplete_51 : decode cX5_isPathComplete 51 = .ok (.invokevirtual 133, 3) := by decide +kernel
theorem dX5_isPathComplete_54 : decode cX5_isPathComplete 54 = .ok (.invokevirtual 136, 3) := by decide +kernel
theorem dX5_isPathComplete_57 : decode cX5_isPathComplete 57 = .ok (.ifCond .ne 5, 3) := by decide +kernel
theorem dX5_isPathComplete_60 : decode cX5_isPathComplete 60 = .ok (.iconst 0, 1) := by decide +kernel
theorem dX5_isPathComplete_61 : decode cX5_isPathComplete 61 = .ok (.ireturn, 1) := by decide +kernel
theorem dX5_isPathComplete_62 : decode cX5_isPathComplete 62 = .ok (.aload_n 0, 1) := by decide +kernel
theorem dX5_isPathComplete_63 : decode cX5_isPathComplete 63 = .ok (.getfield 10, 3) := by decide +kernel
theorem dX5_isPathComplete_66 : decode cX5_isPathComplete 66 = .ok (.iload_n 2, 1) := by decide +kernel
theorem dX5_isPathComplete_67 : decode cX5_isPathComplete 67 = .ok (.invokevirtual 139, 3) := by decide +kernel
theorem dX5_isPathComplete_70 : decode cX5_isPathComplete 70 = .ok (.istore_n 2, 1) := by decide +kernel
theorem dX5_isPathComplete_71 : decode cX5_isPathComplete 71 = .ok (.iinc 3 1, 3) := by decide +kernel
theorem dX5_isPathComplete_74 : decode cX5_isPathComplete 74 = .ok (.goto (-57), 3) := by decide +kernel
theorem dX5_isPathComplete_77 : decode cX5_isPathComplete 77 = .ok (.iconst 1, 1) := by decide +kernel
theorem dX5_isPathComplete_78 : decode cX5_isPathComplete 78 = .ok (.ireturn, 1) := by decide +kernel
set_option maxRecDepth 20000 in
theorem ggX5_packetsNeeded_X2_has : GoodIn wsX5_packetsNeeded wsX2_has := goodIn_r _ [7, 8, 9, 10, 11, 124, 125, 126, 127] (by decide +kernel) (by decide +kernel)
set_option maxRecDepth 20000 in
theorem gX5_packetsNeeded_X2_has : GoodIn wsX5_packetsNeeded (wsV RX5 59 RX2 yX2_has wsX2_has) := goodIn_app (goodIn_of _ (by decide +kernel)) ggX5_packetsNeeded_X2_has
set_option maxRecDepth 20000 in
theorem ggX5_packetsNeeded_X5_isFromOneTo : GoodIn wsX5_packetsNeeded wsX5_isFromOneTo := goodIn_r _ [14] (by decide +kernel) (by decide +kernel)
set_option maxRecDepth 20000 in
theorem gX5_packetsNeeded_X5_isFromOneTo : GoodIn wsX5_packetsNeeded (va_wsS RX5 91 yX5_isFromOneTo wsX5_isFromOneTo) := goodIn_app (goodIn_of _ (by decide +kernel)) ggX5_packetsNeeded_X5_isFromOneTo
set_option maxRecDepth 20000 in
theorem ggX5_packetsNeeded_X0_state : GoodIn wsX5_packetsNeeded wsX0_state := goodIn_r _ [19, 20, 128] (by decide +kernel) (by decide +kernel)
set_option maxRecDepth 20000 in
theorem gX5_packetsNeeded_X0_state : GoodIn wsX5_packetsNeeded (wsV RX5 142 RX0 yX0_state wsX0_state) := goodIn_app (goodIn_of _ (by decide +kernel)) ggX5_packetsNeeded_X0_state
set_option maxRecDepth 20000 in
theorem ggX5_packetsNeeded_X5_tryPackets : GoodIn wsX5_packetsNeeded wsX5_tryPackets := goodIn_r _ [24, 25, 1, 26, 27, 28, 29, 30, 31, 32, 33, 6, 34, 35, 36, 4, 5, 7, 8, 9, 10, 11, 37, 38, 39, 40, 41, 42, 43, 44, 45, 46, 47, 48, 49, 50, 51, 52, 53, 54, 3, 55, 56, 57, 58, 59, 60, 61, 62, 63, 64, 65, 66, 67, 68, 69, 70, 71, 72, 2, 73, 74, 75, 76, 18, 77, 20, 78, 79, 80, 81, 82, 83, 84, 85, 86, 87, 88, 89, 90, 91, 92, 93, 94, 95, 96, 97, 98, 99, 100, 101, 102, 103, 104, 105, 106, 107, 108, 109, 110, 111, 116, 117, 118, 119, 120, 121, 122, 123, 124, 125, 126, 127, 129, 130, 131, 132, 133, 128] (by decide +kernel) (by decide +kernel)
set_option maxRecDepth 20000 in
theorem gX5_packetsNeeded_X5_tryPackets : GoodIn wsX5_packetsNeeded (wsV RX5 145 RX5 yX5_tryPackets wsX5_tryPackets) := goodIn_app (goodIn_of _ (by decide +kernel)) ggX5_packetsNeeded_X5_tryPackets
set_option maxRecDepth 20000 in
theorem ggX5_packetsNeeded_X0_restart : GoodIn wsX5_packetsNeeded wsX0_restart := goodIn_r _ [115, 20, 128] (by decide +kernel) (by decide +kernel)
set_option maxRecDepth 20000 in
theorem gX5_packetsNeeded_X0_restart : GoodIn wsX5_packetsNeeded (wsV RX5 94 RX0 yX0_restart wsX0_restart) := goodIn_app (goodIn_of _ (by decide +kernel)) ggX5_packetsNeeded_X0_restart
theorem dX5_packetsNeeded_0 : decode cX5_packetsNeeded 0 = .ok (.aload_n 0, 1) := by decide +kernel
theorem dX5_packetsNeeded_1 : decode cX5_packetsNeeded 1 = .ok (.getfield 10, 3) := by decide +kernel
theorem dX5_packetsNeeded_4 : decode cX5_packetsNeeded 4 = .ok (.iload_n 1, 1) := by decide +kernel
theorem dX5_packetsNeeded_5 : decode cX5_packetsNeeded 5 = .ok (.invokevirtual 59, 3) := by decide +kernel
theorem dX5_packetsNeeded_8 : decode cX5_packetsNeeded 8 = .ok (.ifCond .ne 5, 3) := by decide +kernel
theorem dX5_packetsNeeded_11 : decode cX5_packetsNeeded 11 = .ok (.iconst (-1), 1) := by decide +kernel
theorem dX5_packetsNeeded_12 : decode cX5_packetsNeeded 12 = .ok (.ireturn, 1) := by decide +kernel
theorem dX5_packetsNeeded_13 : decode cX5_packetsNeeded 13 = .ok (.iload_n 2, 1) := by decide +kernel
theorem dX5_packetsNeeded_14 : decode cX5_packetsNeeded 14 = .ok (.sipush 2000, 3) := by decide +kernel
theorem dX5_packetsNeeded_17 : decode cX5_packetsNeeded 17 = .ok (.invokestatic 91, 3) := by decide +kernel
theorem dX5_packetsNeeded_20 : decode cX5_packetsNeeded 20 = .ok (.ifCond .ne 6, 3) := by decide +kernel
theorem dX5_packetsNeeded_23 : decode cX5_packetsNeeded 23 = .ok (.bipush (-2), 2) := by decide +kernel
theorem dX5_packetsNeeded_25 : decode cX5_packetsNeeded 25 = .ok (.ireturn, 1) := by decide +kernel
theorem dX5_packetsNeeded_26 : decode cX5_packetsNeeded 26 = .ok (.aload_n 0, 1) := by decide +kernel
theorem dX5_packetsNeeded_27 : decode cX5_packetsNeeded 27 = .ok (.getfield 19, 3) := by decide +kernel
theorem dX5_packetsNeeded_30 : decode cX5_packetsNeeded 30 = .ok (.invokevirtual 142, 3) := by decide +kernel
theorem dX5_packetsNeeded_33 : decode cX5_packetsNeeded 33 = .ok (.istore_n 3, 1) := by decide +kernel
theorem dX5_packetsNeeded_34 : decode cX5_packetsNeeded 34 = .ok (.aload_n 0, 1) := by decide +kernel
theorem dX5_packetsNeeded_35 : decode cX5_packetsNeeded 35 = .ok (.iload_n 1, 1) := by decide +kernel
theorem dX5_packetsNeeded_36 : decode cX5_packetsNeeded 36 = .ok (.iload_n 2, 1) := by decide +kernel
theorem dX5_packetsNeeded_37 : decode cX5_packetsNeeded 37 = .ok (.invokevirtual 145, 3) := by decide +kernel
theorem dX5_packetsNeeded_40 : decode cX5_packetsNeeded 40 = .ok (.istore 4, 2) := by decide +kernel
theorem dX5_packetsNeeded_42 : decode cX5_packetsNeeded 42 = .ok (.aload_n 0, 1) := by decide +kernel
theorem dX5_packetsNeeded_43 : decode cX5_packetsNeeded 43 = .ok (.getfield 19, 3) := by decide +kernel
theorem dX5_packetsNeeded_46 : decode cX5_packetsNeeded 46 = .ok (.iload_n 3, 1) := by decide +kernel
theorem dX5_packetsNeeded_47 : decode cX5_packetsNeeded 47 = .ok (.invokevirtual 94, 3) := by decide +kernel
theorem dX5_packetsNeeded_50 : decode cX5_packetsNeeded 50 = .ok (.pop, 1) := by decide +kernel
theorem dX5_packetsNeeded_51 : decode cX5_packetsNeeded 51 = .ok (.iload 4, 2) := by decide +kernel
theorem dX5_packetsNeeded_53 : decode cX5_packetsNeeded 53 = .ok (.ireturn, 1) := by decide +kernel
set_option maxRecDepth 20000 in
theorem ggX5_reconstruct_X3_clear : GoodIn wsX5_reconstruct wsX3_clear := goodIn_r _ [7, 8, 89, 90, 91, 92] (by decide +kernel) (by decide +kernel)
set_option maxRecDepth 20000 in
theorem gX5_reconstruct_X3_clear : GoodIn wsX5_reconstruct (wsV RX5 148 RX3 yX3_clear wsX3_clear) := goodIn_app (goodIn_of _ (by decide +kernel)) ggX5_reconstruct_X3_clear
set_option maxRecDepth 20000 in
theorem ggX5_reconstruct_X5_findTree : GoodIn wsX5_reconstruct wsX5_findTree := goodIn_r _ [13, 1, 14, 15, 16, 17, 6, 18, 8, 19, 20, 21, 22, 23, 24, 25, 26, 27, 28, 29, 30, 31, 32, 33, 34, 35, 36, 37, 38, 39, 40, 41, 12, 42, 43, 44, 45, 46, 47, 48, 49, 50, 51, 52, 53, 54, 55, 56, 57, 58, 59, 60, 61, 62, 63, 64, 65, 66, 67, 68, 69, 70, 71, 72, 73, 74, 75, 76, 77, 78, 79, 80, 81, 82, 83, 84, 85, 86, 87, 88, 89, 90, 91, 92, 93, 94, 95, 96] (by decide +kernel) (by decide +kernel)
set_option maxRecDepth 20000 in
theorem gX5_reconstruct_X5_findTree : GoodIn wsX5_reconstruct (wsV RX5 149 RX5 yX5_findTree wsX5_findTree) := goodIn_app (goodIn_of _ (by decide +kernel)) ggX5_reconstruct_X5_findTree
set_option maxRecDepth 20000 in
theorem ggX5_reconstruct_X3_size : GoodIn wsX5_reconstruct wsX3_size := goodIn_r _ [18, 8, 89, 90, 91, 92] (by decide +kernel) (by decide +kernel)
set_option maxRecDepth 20000 in
theorem gX5_reconstruct_X3_size : GoodIn wsX5_reconstruct (wsV RX5 152 RX3 yX3_size wsX3_size) := goodIn_app (goodIn_of _ (by decide +kernel)) ggX5_reconstruct_X3_size
theorem dX5_reconstruct_0 : decode cX5_reconstruct 0 = .ok (.aload_n 0, 1) := by decide +kernel
theorem dX5_reconstruct_1 : decode cX5_reconstruct 1 = .ok (.getfield 52, 3) := by decide +kernel
theorem dX5_reconstruct_4 : decode cX5_reconstruct 4 = .ok (.invokevirtual 148, 3) := by decide +kernel
theorem dX5_reconstruct_7 : decode cX5_reconstruct 7 = .ok (.aload_n 0, 1) := by decide +kernel
theorem dX5_reconstruct_8 : decode cX5_reconstruct 8 = .ok (.invokevirtual 149, 3) := by decide +kernel
theorem dX5_reconstruct_11 : decode cX5_reconstruct 11 = .ok (.ifCond .ne 6, 3) := by decide +kernel
theorem dX5_reconstruct_14 : decode cX5_reconstruct 14 = .ok (.bipush (-6), 2) := by decide +kernel
theorem dX5_reconstruct_16 : decode cX5_reconstruct 16 = .ok (.ireturn, 1) := by decide +kernel
theorem dX5_reconstruct_17 : decode cX5_reconstruct 17 = .ok (.aload_n 0, 1) := by decide +kernel
theorem dX5_reconstruct_18 : decode cX5_reconstruct 18 = .ok (.getfield 52, 3) := by decide +kernel
theorem dX5_reconstruct_21 : decode cX5_reconstruct 21 = .ok (.astore_n 1, 1) := by decide +kernel
theorem dX5_reconstruct_22 : decode cX5_reconstruct 22 = .ok (.aload_n 0, 1) := by decide +kernel
theorem dX5_reconstruct_23 : decode cX5_reconstruct 23 = .ok (.aload_n 0, 1) := by decide +kernel
theorem dX5_reconstruct_24 : decode cX5_reconstruct 24 = .ok (.getfield 48, 3) := by decide +kernel
theorem dX5_reconstruct_27 : decode cX5_reconstruct 27 = .ok (.putfield 52, 3) := by decide +kernel
theorem dX5_reconstruct_30 : decode cX5_reconstruct 30 = .ok (.aload_n 0, 1) := by decide +kernel
theorem dX5_reconstruct_31 : decode cX5_reconstruct 31 = .ok (.aload_n 1, 1) := by decide +kernel
theorem dX5_reconstruct_32 : decode cX5_reconstruct 32 = .ok (.putfield 48, 3) := by decide +kernel
theorem dX5_reconstruct_35 : decode cX5_reconstruct 35 = .ok (.aload_n 0, 1) := by decide +kernel
theorem dX5_reconstruct_36 : decode cX5_reconstruct 36 = .ok (.getfield 48, 3) := by decide +kernel
theorem dX5_reconstruct_39 : decode cX5_reconstruct 39 = .ok (.invokevirtual 152, 3) := by decide +kernel
theorem dX5_reconstruct_42 : decode cX5_reconstruct 42 = .ok (.ireturn, 1) := by decide +kernel
set_option maxRecDepth 20000 in
theorem ggX5_nodeCount_X3_size : GoodIn wsX5_nodeCount wsX3_size := goodIn_r _ [6, 7, 16, 17, 18, 19] (by decide +kernel) (by decide +kernel)
set_option maxRecDepth 20000 in
theorem gX5_nodeCount_X3_size : GoodIn wsX5_nodeCount (wsV RX5 152 RX3 yX3_size wsX3_size) := goodIn_app (goodIn_of _ (by decide +kernel)) ggX5_nodeCount_X3_size
theorem dX5_nodeCount_0 : decode cX5_nodeCount 0 = .ok (.aload_n 0, 1) := by decide +kernel
theorem dX5_nodeCount_1 : decode cX5_nodeCount 1 = .ok (.getfield 48, 3) := by decide +kernel
theorem dX5_nodeCount_4 : decode cX5_nodeCount 4 = .ok (.invokevirtual 152, 3) := by decide +kernel
theorem dX5_nodeCount_7 : decode cX5_nodeCount 7 = .ok (.ireturn, 1) := by decide +kernel
set_option maxRecDepth 20000 in
theorem ggX5_nodeAddress_X3_has : GoodIn wsX5_nodeAddress wsX3_has := goodIn_r _ [6, 7, 8, 9, 10, 25, 26, 27, 28] (by decide +kernel) (by decide +kernel)
set_option maxRecDepth 20000 in
theorem gX5_nodeAddress_X3_has : GoodIn wsX5_nodeAddress (wsV RX5 153 RX3 yX3_has wsX3_has) := goodIn_app (goodIn_of _ (by decide +kernel)) ggX5_nodeAddress_X3_has
set_option maxRecDepth 20000 in
theorem ggX5_nodeAddress_X3_addressOf : GoodIn wsX5_nodeAddress wsX3_addressOf := goodIn_r _ [14, 15, 16, 3, 4, 5, 6, 7, 8, 9, 10, 25, 26, 27, 28] (by decide +kernel) (by decide +kernel)
set_option maxRecDepth 20000 in
theorem gX5_nodeAddress_X3_addressOf : GoodIn wsX5_nodeAddress (wsV RX5 154 RX3 yX3_addressOf wsX3_addressOf) := goodIn_app (goodIn_of _ (by decide +kernel)) ggX5_nodeAddress_X3_addressOf
theorem dX5_nodeAddress_0 : decode cX5_nodeAddress 0 = .ok (.aload_n 0, 1) := by decide +kernel
theorem dX5_nodeAddress_1 : decode cX5_nodeAddress 1 = .ok (.getfield 48, 3) := by decide +kernel
theorem dX5_nodeAddress_4 : decode cX5_nodeAddress 4 = .ok (.iload_n 1, 1) := by decide +kernel
theorem dX5_nodeAddress_5 : decode cX5_nodeAddress 5 = .ok (.invokevirtual 153, 3) := by decide +kernel
theorem dX5_nodeAddress_8 : decode cX5_nodeAddress 8 = .ok (.ifCond .eq 14, 3) := by decide +kernel
theorem dX5_nodeAddress_11 : decode cX5_nodeAddress 11 = .ok (.aload_n 0, 1) := by decide +kernel
theorem dX5_nodeAddress_12 : decode cX5_nodeAddress 12 = .ok (.getfield 48, 3) := by decide +kernel
theorem dX5_nodeAddress_15 : decode cX5_nodeAddress 15 = .ok (.iload_n 1, 1) := by decide +kernel
theorem dX5_nodeAddress_16 : decode cX5_nodeAddress 16 = .ok (.invokevirtual 154, 3) := by decide +kernel
theorem dX5_nodeAddress_19 : decode cX5_nodeAddress 19 = .ok (.goto 5, 3) := by decide +kernel
theorem dX5_nodeAddress_22 : decode cX5_nodeAddress 22 = .ok (.bipush (-5), 2) := by decide +kernel
theorem dX5_nodeAddress_24 : decode cX5_nodeAddress 24 = .ok (.ireturn, 1) := by decide +kernel
set_option maxRecDepth 20000 in
theorem ggX5_nodeDistance_X3_has : GoodIn wsX5_nodeDistance wsX3_has := goodIn_r _ [6, 7, 8, 9, 10, 25, 26, 27, 28] (by decide +kernel) (by decide +kernel)
set_option maxRecDepth 20000 in
theorem gX5_nodeDistance_X3_has : GoodIn wsX5_nodeDistance (wsV RX5 153 RX3 yX3_has wsX3_has) := goodIn_app (goodIn_of _ (by decide +kernel)) ggX5_nodeDistance_X3_has
set_option maxRecDepth 20000 in
theorem ggX5_nodeDistance_X3_distanceOf : GoodIn wsX5_nodeDistance wsX3_distanceOf := goodIn_r _ [14, 15, 16, 3, 4, 5, 6, 7, 8, 9, 10, 25, 26, 27, 28] (by decide +kernel) (by decide +kernel)
set_option maxRecDepth 20000 in
theorem gX5_nodeDistance_X3_distanceOf : GoodIn wsX5_nodeDistance (wsV RX5 157 RX3 yX3_distanceOf wsX3_distanceOf) := goodIn_app (goodIn_of _ (by decide +kernel)) ggX5_nodeDistance_X3_distanceOf
theorem dX5_nodeDistance_0 : decode cX5_nodeDistance 0 = .ok (.aload_n 0, 1) := by decide +kernel
theorem dX5_nodeDistance_1 : decode cX5_nodeDistance 1 = .ok (.getfield 48, 3) := by decide +kernel
theorem dX5_nodeDistance_4 : decode cX5_nodeDistance 4 = .ok (.iload_n 1, 1) := by decide +kernel
theorem dX5_nodeDistance_5 : decode cX5_nodeDistance 5 = .ok (.invokevirtual 153, 3) := by decide +kernel
theorem dX5_nodeDistance_8 : decode cX5_nodeDistance 8 = .ok (.ifCond .eq 14, 3) := by decide +kernel
theorem dX5_nodeDistance_11 : decode cX5_nodeDistance 11 = .ok (.aload_n 0, 1) := by decide +kernel
theorem dX5_nodeDistance_12 : decode cX5_nodeDistance 12 = .ok (.getfield 48, 3) := by decide +kernel
theorem dX5_nodeDistance_15 : decode cX5_nodeDistance 15 = .ok (.iload_n 1, 1) := by decide +kernel
theorem dX5_nodeDistance_16 : decode cX5_nodeDistance 16 = .ok (.invokevirtual 157, 3) := by decide +kernel
theorem dX5_nodeDistance_19 : decode cX5_nodeDistance 19 = .ok (.goto 5, 3) := by decide +kernel
theorem dX5_nodeDistance_22 : decode cX5_nodeDistance 22 = .ok (.bipush (-5), 2) := by decide +kernel
theorem dX5_nodeDistance_24 : decode cX5_nodeDistance 24 = .ok (.ireturn, 1) := by decide +kernel
set_option maxRecDepth 20000 in
theorem ggX5_nodeParent_X3_has : GoodIn wsX5_nodeParent wsX3_has := goodIn_r _ [6, 7, 8, 9, 10, 25, 26, 27, 28] (by decide +kernel) (by decide +kernel)
set_option maxRecDepth 20000 in
theorem gX5_nodeParent_X3_has : GoodIn wsX5_nodeParent (wsV RX5 153 RX3 yX3_has wsX3_has) := goodIn_app (goodIn_of _ (by decide +kernel)) ggX5_nodeParent_X3_has
set_option maxRecDepth 20000 in
theorem ggX5_nodeParent_X3_parentOf : GoodIn wsX5_nodeParent wsX3_parentOf := goodIn_r _ [14, 15, 16, 3, 4, 5, 6, 7, 8, 9, 10, 25, 26, 27, 28] (by decide +kernel) (by decide +kernel)
set_option maxRecDepth 20000 in
theorem gX5_nodeParent_X3_parentOf : GoodIn wsX5_nodeParent (wsV RX5 160 RX3 yX3_parentOf wsX3_parentOf) := goodIn_app (goodIn_of _ (by decide +kernel)) ggX5_nodeParent_X3_parentOf
theorem dX5_nodeParent_0 : decode cX5_nodeParent 0 = .ok (.aload_n 0, 1) := by decide +kernel
theorem dX5_nodeParent_1 : decode cX5_nodeParent 1 = .ok (.getfield 48, 3) := by decide +kernel
theorem dX5_nodeParent_4 : decode cX5_nodeParent 4 = .ok (.iload_n 1, 1) := by decide +kernel
theorem dX5_nodeParent_5 : decode cX5_nodeParent 5 = .ok (.invokevirtual 153, 3) := by decide +kernel
theorem dX5_nodeParent_8 : decode cX5_nodeParent 8 = .ok (.ifCond .eq 14, 3) := by decide +kernel
theorem dX5_nodeParent_11 : decode cX5_nodeParent 11 = .ok (.aload_n 0, 1) := by decide +kernel
theorem dX5_nodeParent_12 : decode cX5_nodeParent 12 = .ok (.getfield 48, 3) := by decide +kernel
theorem dX5_nodeParent_15 : decode cX5_nodeParent 15 = .ok (.iload_n 1, 1) := by decide +kernel
theorem dX5_nodeParent_16 : decode cX5_nodeParent 16 = .ok (.invokevirtual 160, 3) := by decide +kernel
theorem dX5_nodeParent_19 : decode cX5_nodeParent 19 = .ok (.goto 5, 3) := by decide +kernel
theorem dX5_nodeParent_22 : decode cX5_nodeParent 22 = .ok (.bipush (-5), 2) := by decide +kernel
theorem dX5_nodeParent_24 : decode cX5_nodeParent 24 = .ok (.ireturn, 1) := by decide +kernel
set_option maxRecDepth 20000 in
theorem ggX5_nodeRouter_X3_has : GoodIn wsX5_nodeRouter wsX3_has := goodIn_r _ [6, 7, 8, 9, 10, 56, 57, 58, 59] (by decide +kernel) (by decide +kernel)
set_option maxRecDepth 20000 in
theorem gX5_nodeRouter_X3_has : GoodIn wsX5_nodeRouter (wsV RX5 153 RX3 yX3_has wsX3_has) := goodIn_app (goodIn_of _ (by decide +kernel)) ggX5_nodeRouter_X3_has
set_option maxRecDepth 20000 in
theorem ggX5_nodeRouter_X5_routerBehind : GoodIn wsX5_nodeRouter wsX5_routerBehind := goodIn_r _ [14, 15, 1, 16, 17, 18, 5, 19, 20, 21, 3, 4, 6, 7, 8, 9, 10, 22, 23, 24, 25, 26, 27, 28, 29, 30, 31, 32, 2, 33, 34, 35, 36, 37, 38, 39, 40, 41, 42, 43, 44, 45, 46, 47, 48, 49, 50, 51, 52, 53, 54, 55, 56, 57, 58, 59, 60, 61, 62, 63] (by decide +kernel) (by decide +kernel)
set_option maxRecDepth 20000 in
theorem gX5_nodeRouter_X5_routerBehind : GoodIn wsX5_nodeRouter (wsV RX5 161 RX5 yX5_routerBehind wsX5_routerBehind) := goodIn_app (goodIn_of _ (by decide +kernel)) ggX5_nodeRouter_X5_routerBehind
theorem dX5_nodeRouter_0 : decode cX5_nodeRouter 0 = .ok (.aload_n 0, 1) := by decide +kernel
theorem dX5_nodeRouter_1 : decode cX5_nodeRouter 1 = .ok (.getfield 48, 3) := by decide +kernel
theorem dX5_nodeRouter_4 : decode cX5_nodeRouter 4 = .ok (.iload_n 1, 1) := by decide +kernel
theorem dX5_nodeRouter_5 : decode cX5_nodeRouter 5 = .ok (.invokevirtual 153, 3) := by decide +kernel
theorem dX5_nodeRouter_8 : decode cX5_nodeRouter 8 = .ok (.ifCond .eq 11, 3) := by decide +kernel
theorem dX5_nodeRouter_11 : decode cX5_nodeRouter 11 = .ok (.aload_n 0, 1) := by decide +kernel
theorem dX5_nodeRouter_12 : decode cX5_nodeRouter 12 = .ok (.iload_n 1, 1) := by decide +kernel
theorem dX5_nodeRouter_13 : decode cX5_nodeRouter 13 = .ok (.invokevirtual 161, 3) := by decide +kernel
theorem dX5_nodeRouter_16 : decode cX5_nodeRouter 16 = .ok (.goto 5, 3) := by decide +kernel
theorem dX5_nodeRouter_19 : decode cX5_nodeRouter 19 = .ok (.bipush (-5), 2) := by decide +kernel
theorem dX5_nodeRouter_21 : decode cX5_nodeRouter 21 = .ok (.ireturn, 1) := by decide +kernel
set_option maxRecDepth 20000 in
theorem ggX5_falseNodeCount_X3_size : GoodIn wsX5_falseNodeCount wsX3_size := goodIn_r _ [6, 7, 60, 61, 62, 63] (by decide +kernel) (by decide +kernel)
set_option maxRecDepth 20000 in
theorem gX5_falseNodeCount_X3_size : GoodIn wsX5_falseNodeCount (wsV RX5 152 RX3 yX3_size wsX3_size) := goodIn_app (goodIn_of _ (by decide +kernel)) ggX5_falseNodeCount_X3_size
set_option maxRecDepth 20000 in
theorem ggX5_falseNodeCount_X5_routerBehind : GoodIn wsX5_falseNodeCount wsX5_routerBehind := goodIn_r _ [12, 13, 1, 14, 15, 16, 5, 17, 18, 19, 20, 21, 22, 7, 23, 11, 24, 25, 26, 27, 28, 29, 30, 31, 32, 33, 34, 35, 36, 37, 38, 39, 40, 41, 42, 43, 44, 45, 46, 47, 48, 49, 50, 51, 52, 53, 54, 55, 56, 57, 58, 59, 60, 61, 62, 63, 64, 65, 66, 67] (by decide +kernel) (by decide +kernel)
set_option maxRecDepth 20000 in
theorem gX5_falseNodeCount_X5_routerBehind : GoodIn wsX5_falseNodeCount (wsV RX5 161 RX5 yX5_routerBehind wsX5_routerBehind) := goodIn_app (goodIn_of _ (by decide +kernel)) ggX5_falseNodeCount_X5_routerBehind
theorem dX5_falseNodeCount_0 : decode cX5_falseNodeCount 0 = .ok (.iconst 0, 1) := by decide +kernel
theorem dX5_falseNodeCount_1 : decode cX5_falseNodeCount 1 = .ok (.istore_n 1, 1) := by decide +kernel
theorem dX5_falseNodeCount_2 : decode cX5_falseNodeCount 2 = .ok (.iconst 0, 1) := by decide +kernel
theorem dX5_falseNodeCount_3 : decode cX5_falseNodeCount 3 = .ok (.istore_n 2, 1) := by decide +kernel
theorem dX5_falseNodeCount_4 : decode cX5_falseNodeCount 4 = .ok (.iload_n 2, 1) := by decide +kernel
theorem dX5_falseNodeCount_5 : decode cX5_falseNodeCount 5 = .ok (.aload_n 0, 1) := by decide +kernel
theorem dX5_falseNodeCount_6 : decode cX5_falseNodeCount 6 = .ok (.getfield 48, 3) := by decide +kernel
theorem dX5_falseNodeCount_9 : decode cX5_falseNodeCount 9 = .ok (.invokevirtual 152, 3) := by decide +kernel
theorem dX5_falseNodeCount_12 : decode cX5_falseNodeCount 12 = .ok (.if_icmp .ge 22, 3) := by decide +kernel
theorem dX5_falseNodeCount_15 : decode cX5_falseNodeCount 15 = .ok (.aload_n 0, 1) := by decide +kernel
theorem dX5_falseNodeCount_16 : decode cX5_falseNodeCount 16 = .ok (.iload_n 2, 1) := by decide +kernel
theorem dX5_falseNodeCount_17 : decode cX5_falseNodeCount 17 = .ok (.invokevirtual 161, 3) := by decide +kernel
theorem dX5_falseNodeCount_20 : decode cX5_falseNodeCount 20 = .ok (.bipush (-7), 2) := by decide +kernel
theorem dX5_falseNodeCount_22 : decode cX5_falseNodeCount 22 = .ok (.if_icmp .ne 6, 3) := by decide +kernel
theorem dX5_falseNodeCount_25 : decode cX5_falseNodeCount 25 = .ok (.iinc 1 1, 3) := by decide +kernel
theorem dX5_falseNodeCount_28 : decode cX5_falseNodeCount 28 = .ok (.iinc 2 1, 3) := by decide +kernel
theorem dX5_falseNodeCount_31 : decode cX5_falseNodeCount 31 = .ok (.goto (-27), 3) := by decide +kernel
theorem dX5_falseNodeCount_34 : decode cX5_falseNodeCount 34 = .ok (.iload_n 1, 1) := by decide +kernel
theorem dX5_falseNodeCount_35 : decode cX5_falseNodeCount 35 = .ok (.ireturn, 1) := by decide +kernel
set_option maxRecDepth 20000 in
theorem ggX5_nodeOf_X2_has : GoodIn wsX5_nodeOf wsX2_has := goodIn_r _ [7, 8, 9, 10, 11, 60, 61, 62, 63] (by decide +kernel) (by decide +kernel)
set_option maxRecDepth 20000 in
theorem gX5_nodeOf_X2_has : GoodIn wsX5_nodeOf (wsV RX5 59 RX2 yX2_has wsX2_has) := goodIn_app (goodIn_of _ (by decide +kernel)) ggX5_nodeOf_X2_has
set_option maxRecDepth 20000 in
theorem ggX5_nodeOf_X3_size : GoodIn wsX5_nodeOf wsX3_size := goodIn_r _ [16, 17, 64, 65, 66, 67] (by decide +kernel) (by decide +kernel)
set_option maxRecDepth 20000 in
theorem gX5_nodeOf_X3_size : GoodIn wsX5_nodeOf (wsV RX5 152 RX3 yX3_size wsX3_size) := goodIn_app (goodIn_of _ (by decide +kernel)) ggX5_nodeOf_X3_size
set_option maxRecDepth 20000 in
theorem ggX5_nodeOf_X5_routerBehind : GoodIn wsX5_nodeOf wsX5_routerBehind := goodIn_r _ [21, 1, 2, 22, 23, 24, 15, 25, 26, 27, 28, 29, 30, 17, 9, 10, 11, 31, 32, 33, 6, 34, 8, 35, 3, 4, 5, 7, 36, 37, 38, 39, 40, 41, 42, 43, 44, 45, 46, 47, 48, 49, 50, 51, 52, 53, 54, 55, 56, 57, 58, 59, 64, 65, 66, 67, 60, 61, 62, 63] (by decide +kernel) (by decide +kernel)
set_option maxRecDepth 20000 in
theorem gX5_nodeOf_X5_routerBehind : GoodIn wsX5_nodeOf (wsV RX5 161 RX5 yX5_routerBehind wsX5_routerBehind) := goodIn_app (goodIn_of _ (by decide +kernel)) ggX5_nodeOf_X5_routerBehind
theorem dX5_nodeOf_0 : decode cX5_nodeOf 0 = .ok (.aload_n 0, 1) := by decide +kernel
theorem dX5_nodeOf_1 : decode cX5_nodeOf 1 = .ok (.getfield 10, 3) := by decide +kernel
theorem dX5_nodeOf_4 : decode cX5_nodeOf 4 = .ok (.iload_n 1, 1) := by decide +kernel
theorem dX5_nodeOf_5 : decode cX5_nodeOf 5 = .ok (.invokevirtual 59, 3) := by decide +kernel
theorem dX5_nodeOf_8 : decode cX5_nodeOf 8 = .ok (.ifCond .ne 5, 3) := by decide +kernel
theorem dX5_nodeOf_11 : decode cX5_nodeOf 11 = .ok (.iconst (-1), 1) := by decide +kernel
theorem dX5_nodeOf_12 : decode cX5_nodeOf 12 = .ok (.ireturn, 1) := by decide +kernel
theorem dX5_nodeOf_13 : decode cX5_nodeOf 13 = .ok (.iconst 0, 1) := by decide +kernel
theorem dX5_nodeOf_14 : decode cX5_nodeOf 14 = .ok (.istore_n 2, 1) := by decide +kernel
theorem dX5_nodeOf_15 : decode cX5_nodeOf 15 = .ok (.iload_n 2, 1) := by decide +kernel
theorem dX5_nodeOf_16 : decode cX5_nodeOf 16 = .ok (.aload_n 0, 1) := by decide +kernel
theorem dX5_nodeOf_17 : decode cX5_nodeOf 17 = .ok (.getfield 48, 3) := by decide +kernel
theorem dX5_nodeOf_20 : decode cX5_nodeOf 20 = .ok (.invokevirtual 152, 3) := by decide +kernel
theorem dX5_nodeOf_23 : decode cX5_nodeOf 23 = .ok (.if_icmp .ge 20, 3) := by decide +kernel
theorem dX5_nodeOf_26 : decode cX5_nodeOf 26 = .ok (.aload_n 0, 1) := by decide +kernel
theorem dX5_nodeOf_27 : decode cX5_nodeOf 27 = .ok (.iload_n 2, 1) := by decide +kernel
theorem dX5_nodeOf_28 : decode cX5_nodeOf 28 = .ok (.invokevirtual 161, 3) := by decide +kernel
theorem dX5_nodeOf_31 : decode cX5_nodeOf 31 = .ok (.iload_n 1, 1) := by decide +kernel
theorem dX5_nodeOf_32 : decode cX5_nodeOf 32 = .ok (.if_icmp .ne 5, 3) := by decide +kernel
theorem dX5_nodeOf_35 : decode cX5_nodeOf 35 = .ok (.iload_n 2, 1) := by decide +kernel
theorem dX5_nodeOf_36 : decode cX5_nodeOf 36 = .ok (.ireturn, 1) := by decide +kernel
theorem dX5_nodeOf_37 : decode cX5_nodeOf 37 = .ok (.iinc 2 1, 3) := by decide +kernel
theorem dX5_nodeOf_40 : decode cX5_nodeOf 40 = .ok (.goto (-25), 3) := by decide +kernel
theorem dX5_nodeOf_43 : decode cX5_nodeOf 43 = .ok (.bipush (-7), 2) := by decide +kernel
theorem dX5_nodeOf_45 : decode cX5_nodeOf 45 = .ok (.ireturn, 1) := by decide +kernel
theorem dX5_isBelow_0 : decode cX5_isBelow 0 = .ok (.iload_n 0, 1) := by decide +kernel
theorem dX5_isBelow_1 : decode cX5_isBelow 1 = .ok (.ifCond .lt 12, 3) := by decide +kernel
theorem dX5_isBelow_4 : decode cX5_isBelow 4 = .ok (.iload_n 0, 1) := by decide +kernel
theorem dX5_isBelow_5 : decode cX5_isBelow 5 = .ok (.iload_n 1, 1) := by decide +kernel
theorem dX5_isBelow_6 : decode cX5_isBelow 6 = .ok (.if_icmp .ge 7, 3) := by decide +kernel
theorem dX5_isBelow_9 : decode cX5_isBelow 9 = .ok (.iconst 1, 1) := by decide +kernel
theorem dX5_isBelow_10 : decode cX5_isBelow 10 = .ok (.goto 4, 3) := by decide +kernel
theorem dX5_isBelow_13 : decode cX5_isBelow 13 = .ok (.iconst 0, 1) := by decide +kernel
theorem dX5_isBelow_14 : decode cX5_isBelow 14 = .ok (.ireturn, 1) := by decide +kernel
theorem dX5_isFromOneTo_0 : decode cX5_isFromOneTo 0 = .ok (.iload_n 0, 1) := by decide +kernel
theorem dX5_isFromOneTo_1 : decode cX5_isFromOneTo 1 = .ok (.iconst 1, 1) := by decide +kernel
theorem dX5_isFromOneTo_2 : decode cX5_isFromOneTo 2 = .ok (.if_icmp .lt 12, 3) := by decide +kernel
theorem dX5_isFromOneTo_5 : decode cX5_isFromOneTo 5 = .ok (.iload_n 0, 1) := by decide +kernel
theorem dX5_isFromOneTo_6 : decode cX5_isFromOneTo 6 = .ok (.iload_n 1, 1) := by decide +kernel
theorem dX5_isFromOneTo_7 : decode cX5_isFromOneTo 7 = .ok (.if_icmp .gt 7, 3) := by decide +kernel
theorem dX5_isFromOneTo_10 : decode cX5_isFromOneTo 10 = .ok (.iconst 1, 1) := by decide +kernel
theorem dX5_isFromOneTo_11 : decode cX5_isFromOneTo 11 = .ok (.goto 4, 3) := by decide +kernel
theorem dX5_isFromOneTo_14 : decode cX5_isFromOneTo 14 = .ok (.iconst 0, 1) := by decide +kernel
theorem dX5_isFromOneTo_15 : decode cX5_isFromOneTo 15 = .ok (.ireturn, 1) := by decide +kernel
set_option maxRecDepth 20000 in
theorem ggX5_isMark_X5_isBelow : GoodIn wsX5_isMark wsX5_isBelow := goodIn_r _ [4] (by decide +kernel) (by decide +kernel)
set_option maxRecDepth 20000 in
theorem gX5_isMark_X5_isBelow : GoodIn wsX5_isMark (va_wsS RX5 63 yX5_isBelow wsX5_isBelow) := goodIn_app (goodIn_of _ (by decide +kernel)) ggX5_isMark_X5_isBelow
theorem dX5_isMark_0 : decode cX5_isMark 0 = .ok (.iload_n 0, 1) := by decide +kernel
theorem dX5_isMark_1 : decode cX5_isMark 1 = .ok (.bipush 32, 2) := by decide +kernel
theorem dX5_isMark_3 : decode cX5_isMark 3 = .ok (.invokestatic 63, 3) := by decide +kernel
theorem dX5_isMark_6 : decode cX5_isMark 6 = .ok (.ifCond .eq 24, 3) := by decide +kernel
theorem dX5_isMark_9 : decode cX5_isMark 9 = .ok (.iload_n 1, 1) := by decide +kernel
theorem dX5_isMark_10 : decode cX5_isMark 10 = .ok (.iconst 4, 1) := by decide +kernel
theorem dX5_isMark_11 : decode cX5_isMark 11 = .ok (.invokestatic 63, 3) := by decide +kernel
theorem dX5_isMark_14 : decode cX5_isMark 14 = .ok (.ifCond .eq 16, 3) := by decide +kernel
theorem dX5_isMark_17 : decode cX5_isMark 17 = .ok (.iload_n 2, 1) := by decide +kernel
theorem dX5_isMark_18 : decode cX5_isMark 18 = .ok (.bipush 32, 2) := by decide +kernel
theorem dX5_isMark_20 : decode cX5_isMark 20 = .ok (.invokestatic 63, 3) := by decide +kernel
theorem dX5_isMark_23 : decode cX5_isMark 23 = .ok (.ifCond .eq 7, 3) := by decide +kernel
theorem dX5_isMark_26 : decode cX5_isMark 26 = .ok (.iconst 1, 1) := by decide +kernel
theorem dX5_isMark_27 : decode cX5_isMark 27 = .ok (.goto 4, 3) := by decide +kernel
theorem dX5_isMark_30 : decode cX5_isMark 30 = .ok (.iconst 0, 1) := by decide +kernel
theorem dX5_isMark_31 : decode cX5_isMark 31 = .ok (.ireturn, 1) := by decide +kernel
theorem dX5_digestOf_0 : decode cX5_digestOf 0 = .ok (.iload_n 0, 1) := by decide +kernel
theorem dX5_digestOf_1 : decode cX5_digestOf 1 = .ok (.sipush 167, 3) := by decide +kernel
theorem dX5_digestOf_4 : decode cX5_digestOf 4 = .ok (.imul, 1) := by decide +kernel
theorem dX5_digestOf_5 : decode cX5_digestOf 5 = .ok (.bipush 29, 2) := by decide +kernel
theorem dX5_digestOf_7 : decode cX5_digestOf 7 = .ok (.iadd, 1) := by decide +kernel
theorem dX5_digestOf_8 : decode cX5_digestOf 8 = .ok (.iconst 3, 1) := by decide +kernel
theorem dX5_digestOf_9 : decode cX5_digestOf 9 = .ok (.ishr, 1) := by decide +kernel
theorem dX5_digestOf_10 : decode cX5_digestOf 10 = .ok (.iload_n 0, 1) := by decide +kernel
theorem dX5_digestOf_11 : decode cX5_digestOf 11 = .ok (.ixor, 1) := by decide +kernel
theorem dX5_digestOf_12 : decode cX5_digestOf 12 = .ok (.sipush 255, 3) := by decide +kernel
theorem dX5_digestOf_15 : decode cX5_digestOf 15 = .ok (.iand, 1) := by decide +kernel
theorem dX5_digestOf_16 : decode cX5_digestOf 16 = .ok (.ireturn, 1) := by decide +kernel
set_option maxRecDepth 20000 in
theorem ggX5_wordOf_X5_digestOf : GoodIn wsX5_wordOf wsX5_digestOf := goodIn_r _ [4] (by decide +kernel) (by decide +kernel)
set_option maxRecDepth 20000 in
theorem gX5_wordOf_X5_digestOf : GoodIn wsX5_wordOf (va_wsS RX5 82 yX5_digestOf wsX5_digestOf) := goodIn_app (goodIn_of _ (by decide +kernel)) ggX5_wordOf_X5_digestOf
theorem dX5_wordOf_0 : decode cX5_wordOf 0 = .ok (.iload_n 0, 1) := by decide +kernel
theorem dX5_wordOf_1 : decode cX5_wordOf 1 = .ok (.sipush 256, 3) := by decide +kernel
theorem dX5_wordOf_4 : decode cX5_wordOf 4 = .ok (.imul, 1) := by decide +kernel
theorem dX5_wordOf_5 : decode cX5_wordOf 5 = .ok (.iload_n 0, 1) := by decide +kernel
theorem dX5_wordOf_6 : decode cX5_wordOf 6 = .ok (.invokestatic 82, 3) := by decide +kernel
theorem dX5_wordOf_9 : decode cX5_wordOf 9 = .ok (.iadd, 1) := by decide +kernel
theorem dX5_wordOf_10 : decode cX5_wordOf 10 = .ok (.ireturn, 1) := by decide +kernel
theorem dX5_fragmentOf_0 : decode cX5_fragmentOf 0 = .ok (.iload_n 0, 1) := by decide +kernel
theorem dX5_fragmentOf_1 : decode cX5_fragmentOf 1 = .ok (.iload_n 1, 1) := by decide +kernel
theorem dX5_fragmentOf_2 : decode cX5_fragmentOf 2 = .ok (.iconst 5, 1) := by decide +kernel
theorem dX5_fragmentOf_3 : decode cX5_fragmentOf 3 = .ok (.imul, 1) := by decide +kernel
theorem dX5_fragmentOf_4 : decode cX5_fragmentOf 4 = .ok (.ishr, 1) := by decide +kernel
theorem dX5_fragmentOf_5 : decode cX5_fragmentOf 5 = .ok (.bipush 31, 2) := by decide +kernel
theorem dX5_fragmentOf_7 : decode cX5_fragmentOf 7 = .ok (.iand, 1) := by decide +kernel
theorem dX5_fragmentOf_8 : decode cX5_fragmentOf 8 = .ok (.ireturn, 1) := by decide +kernel
set_option maxRecDepth 20000 in
theorem ggX5_deliver_X5_carryToVictim : GoodIn wsX5_deliver wsX5_carryToVictim := goodIn_r _ [7, 8, 9, 10, 11, 12, 13, 14, 15, 6, 16, 17, 18, 19, 20, 21, 22, 23, 24, 25, 26, 27, 28, 29, 30, 31, 32, 33, 34, 35, 36, 37, 2, 38, 39, 40, 41, 42, 43, 44, 45, 46, 47, 48, 49, 50, 51, 52, 53, 54, 55, 56, 57, 58, 59, 60, 61, 62, 63, 64, 65, 66, 67, 68, 69, 70, 106, 107, 108, 109, 110, 111, 112, 113, 114, 115, 116, 117, 118, 119, 120, 121, 122, 123] (by decide +kernel) (by decide +kernel)
set_option maxRecDepth 20000 in
theorem gX5_deliver_X5_carryToVictim : GoodIn wsX5_deliver (wsV RX5 164 RX5 yX5_carryToVictim wsX5_carryToVictim) := goodIn_app (goodIn_of _ (by decide +kernel)) ggX5_deliver_X5_carryToVictim
set_option maxRecDepth 20000 in
theorem ggX5_deliver_X1_note : GoodIn wsX5_deliver wsX1_note := goodIn_r _ [75, 76, 77, 78, 79, 80, 81, 82, 51, 83, 53, 84, 85, 86, 87, 61, 88, 89, 90, 91, 59, 92, 93, 94, 95, 60, 96, 97, 74, 98, 99, 100, 101, 124, 125, 126, 127, 119, 120, 121, 122, 123] (by decide +kernel) (by decide +kernel)
set_option maxRecDepth 20000 in
theorem gX5_deliver_X1_note : GoodIn wsX5_deliver (wsV RX5 168 RX1 yX1_note wsX1_note) := goodIn_app (goodIn_of _ (by decide +kernel)) ggX5_deliver_X1_note
set_option maxRecDepth 20000 in
theorem ggX5_deliver_X4_isMarkedByRouter : GoodIn wsX5_deliver wsX4_isMarkedByRouter := goodIn_r _ [105, 54, 119, 120, 121, 122, 123] (by decide +kernel) (by decide +kernel)
set_option maxRecDepth 20000 in
theorem gX5_deliver_X4_isMarkedByRouter : GoodIn wsX5_deliver (wsV RX5 172 RX4 yX4_isMarkedByRouter wsX4_isMarkedByRouter) := goodIn_app (goodIn_of _ (by decide +kernel)) ggX5_deliver_X4_isMarkedByRouter
theorem dX5_deliver_0 : decode cX5_deliver 0 = .ok (.aload_n 0, 1) := by decide +kernel
theorem dX5_deliver_1 : decode cX5_deliver 1 = .ok (.iload_n 1, 1) := by decide +kernel
theorem dX5_deliver_2 : decode cX5_deliver 2 = .ok (.invokevirtual 164, 3) := by decide +kernel
theorem dX5_deliver_5 : decode cX5_deliver 5 = .ok (.aload_n 0, 1) := by decide +kernel
theorem dX5_deliver_6 : decode cX5_deliver 6 = .ok (.getfield 33, 3) := by decide +kernel
theorem dX5_deliver_9 : decode cX5_deliver 9 = .ok (.aload_n 0, 1) := by decide +kernel
theorem dX5_deliver_10 : decode cX5_deliver 10 = .ok (.getfield 26, 3) := by decide +kernel
theorem dX5_deliver_13 : decode cX5_deliver 13 = .ok (.invokevirtual 168, 3) := by decide +kernel
theorem dX5_deliver_16 : decode cX5_deliver 16 = .ok (.aload_n 0, 1) := by decide +kernel
theorem dX5_deliver_17 : decode cX5_deliver 17 = .ok (.getfield 26, 3) := by decide +kernel
theorem dX5_deliver_20 : decode cX5_deliver 20 = .ok (.invokevirtual 172, 3) := by decide +kernel
theorem dX5_deliver_23 : decode cX5_deliver 23 = .ok (.ifCond .eq 7, 3) := by decide +kernel
theorem dX5_deliver_26 : decode cX5_deliver 26 = .ok (.iconst 1, 1) := by decide +kernel
theorem dX5_deliver_27 : decode cX5_deliver 27 = .ok (.goto 4, 3) := by decide +kernel
theorem dX5_deliver_30 : decode cX5_deliver 30 = .ok (.iconst 0, 1) := by decide +kernel
theorem dX5_deliver_31 : decode cX5_deliver 31 = .ok (.ireturn, 1) := by decide +kernel
set_option maxRecDepth 20000 in
theorem ggX5_carryToVictim_X2_has : GoodIn wsX5_carryToVictim wsX2_has := goodIn_r _ [6, 7, 8, 9, 10, 74, 75, 76, 77] (by decide +kernel) (by decide +kernel)
set_option maxRecDepth 20000 in
theorem gX5_carryToVictim_X2_has : GoodIn wsX5_carryToVictim (wsV RX5 59 RX2 yX2_has wsX2_has) := goodIn_app (goodIn_of _ (by decide +kernel)) ggX5_carryToVictim_X2_has
set_option maxRecDepth 20000 in
theorem ggX5_carryToVictim_X2_wordAt : GoodIn wsX5_carryToVictim wsX2_wordAt := goodIn_r _ [14, 15, 16, 17, 5, 18, 19, 20, 3, 4, 6, 7, 8, 9, 10, 21, 22, 23, 24, 25, 74, 75, 76, 77] (by decide +kernel) (by decide +kernel)
set_option maxRecDepth 20000 in
theorem gX5_carryToVictim_X2_wordAt : GoodIn wsX5_carryToVictim (wsV RX5 175 RX2 yX2_wordAt wsX2_wordAt) := goodIn_app (goodIn_of _ (by decide +kernel)) ggX5_carryToVictim_X2_wordAt
set_option maxRecDepth 20000 in
theorem ggX5_carryToVictim_X5_passRouter : GoodIn wsX5_carryToVictim wsX5_passRouter := goodIn_r _ [29, 30, 31, 32, 33, 34, 35, 36, 37, 38, 39, 40, 41, 9, 42, 43, 44, 45, 46, 47, 48, 49, 50, 51, 52, 53, 54, 55, 56, 57, 58, 59, 60, 66, 67, 68, 69, 70, 71, 72, 73, 78, 79, 80, 81, 82, 83] (by decide +kernel) (by decide +kernel)
set_option maxRecDepth 20000 in
theorem gX5_carryToVictim_X5_passRouter : GoodIn wsX5_carryToVictim (wsV RX5 178 RX5 yX5_passRouter wsX5_passRouter) := goodIn_app (goodIn_of _ (by decide +kernel)) ggX5_carryToVictim_X5_passRouter
set_option maxRecDepth 20000 in
theorem ggX5_carryToVictim_X2_parentOf : GoodIn wsX5_carryToVictim wsX2_parentOf := goodIn_r _ [64, 65, 20, 3, 4, 5, 6, 7, 8, 9, 10, 74, 75, 76, 77] (by decide +kernel) (by decide +kernel)
set_option maxRecDepth 20000 in
theorem gX5_carryToVictim_X2_parentOf : GoodIn wsX5_carryToVictim (wsV RX5 139 RX2 yX2_parentOf wsX2_parentOf) := goodIn_app (goodIn_of _ (by decide +kernel)) ggX5_carryToVictim_X2_parentOf
theorem dX5_carryToVictim_0 : decode cX5_carryToVictim 0 = .ok (.iload_n 1, 1) := by decide +kernel
theorem dX5_carryToVictim_1 : decode cX5_carryToVictim 1 = .ok (.istore_n 2, 1) := by decide +kernel
theorem dX5_carryToVictim_2 : decode cX5_carryToVictim 2 = .ok (.iconst 0, 1) := by decide +kernel
theorem dX5_carryToVictim_3 : decode cX5_carryToVictim 3 = .ok (.istore_n 3, 1) := by decide +kernel
theorem dX5_carryToVictim_4 : decode cX5_carryToVictim 4 = .ok (.iload_n 3, 1) := by decide +kernel
theorem dX5_carryToVictim_5 : decode cX5_carryToVictim 5 = .ok (.bipush 20, 2) := by decide +kernel
theorem dX5_carryToVictim_7 : decode cX5_carryToVictim 7 = .ok (.if_icmp .ge 41, 3) := by decide +kernel
theorem dX5_carryToVictim_10 : decode cX5_carryToVictim 10 = .ok (.aload_n 0, 1) := by decide +kernel
theorem dX5_carryToVictim_11 : decode cX5_carryToVictim 11 = .ok (.getfield 10, 3) := by decide +kernel
theorem dX5_carryToVictim_14 : decode cX5_carryToVictim 14 = .ok (.iload_n 2, 1) := by decide +kernel
theorem dX5_carryToVictim_15 : decode cX5_carryToVictim 15 = .ok (.invokevirtual 59, 3) := by decide +kernel
theorem dX5_carryToVictim_18 : decode cX5_carryToVictim 18 = .ok (.ifCond .eq 30, 3) := by decide +kernel
theorem dX5_carryToVictim_21 : decode cX5_carryToVictim 21 = .ok (.aload_n 0, 1) := by decide +kernel
theorem dX5_carryToVictim_22 : decode cX5_carryToVictim 22 = .ok (.aload_n 0, 1) := by decide +kernel
theorem dX5_carryToVictim_23 : decode cX5_carryToVictim 23 = .ok (.getfield 10, 3) := by decide +kernel
theorem dX5_carryToVictim_26 : decode cX5_carryToVictim 26 = .ok (.iload_n 2, 1) := by decide +kernel
theorem dX5_carryToVictim_27 : decode cX5_carryToVictim 27 = .ok (.invokevirtual 175, 3) := by decide +kernel
theorem dX5_carryToVictim_30 : decode cX5_carryToVictim 30 = .ok (.invokevirtual 178, 3) := by decide +kernel
theorem dX5_carryToVictim_33 : decode cX5_carryToVictim 33 = .ok (.aload_n 0, 1) := by decide +kernel
theorem dX5_carryToVictim_34 : decode cX5_carryToVictim 34 = .ok (.getfield 10, 3) := by decide +kernel
theorem dX5_carryToVictim_37 : decode cX5_carryToVictim 37 = .ok (.iload_n 2, 1) := by decide +kernel
theorem dX5_carryToVictim_38 : decode cX5_carryToVictim 38 = .ok (.invokevirtual 139, 3) := by decide +kernel
theorem dX5_carryToVictim_41 : decode cX5_carryToVictim 41 = .ok (.istore_n 2, 1) := by decide +kernel
theorem dX5_carryToVictim_42 : decode cX5_carryToVictim 42 = .ok (.iinc 3 1, 3) := by decide +kernel
theorem dX5_carryToVictim_45 : decode cX5_carryToVictim 45 = .ok (.goto (-41), 3) := by decide +kernel
theorem dX5_carryToVictim_48 : decode cX5_carryToVictim 48 = .ok (.return_, 1) := by decide +kernel
set_option maxRecDepth 20000 in
theorem ggX5_passRouter_X0_draw : GoodIn wsX5_passRouter wsX0_draw := goodIn_r _ [8, 9, 10, 41] (by decide +kernel) (by decide +kernel)
set_option maxRecDepth 20000 in
theorem gX5_passRouter_X0_draw : GoodIn wsX5_passRouter (wsV RX5 181 RX0 yX0_draw wsX0_draw) := goodIn_app (goodIn_of _ (by decide +kernel)) ggX5_passRouter_X0_draw
set_option maxRecDepth 20000 in
theorem ggX5_passRouter_X5_fragmentOf : GoodIn wsX5_passRouter wsX5_fragmentOf := goodIn_r _ [14] (by decide +kernel) (by decide +kernel)
set_option maxRecDepth 20000 in
theorem gX5_passRouter_X5_fragmentOf : GoodIn wsX5_passRouter (va_wsS RX5 88 yX5_fragmentOf wsX5_fragmentOf) := goodIn_app (goodIn_of _ (by decide +kernel)) ggX5_passRouter_X5_fragmentOf
set_option maxRecDepth 20000 in
theorem ggX5_passRouter_X4_takeMark : GoodIn wsX5_passRouter wsX4_takeMark := goodIn_r _ [19, 20, 21, 22, 23, 24, 18, 25, 26, 27, 28, 42, 43, 44, 45, 46] (by decide +kernel) (by decide +kernel)
set_option maxRecDepth 20000 in
theorem gX5_passRouter_X4_takeMark : GoodIn wsX5_passRouter (wsV RX5 184 RX4 yX4_takeMark wsX4_takeMark) := goodIn_app (goodIn_of _ (by decide +kernel)) ggX5_passRouter_X4_takeMark
set_option maxRecDepth 20000 in
theorem ggX5_passRouter_X4_goOn : GoodIn wsX5_passRouter wsX4_goOn := goodIn_r _ [32, 20, 26, 28, 27, 12, 13, 14, 42, 43, 44, 45, 46] (by decide +kernel) (by decide +kernel)
set_option maxRecDepth 20000 in
theorem gX5_passRouter_X4_goOn : GoodIn wsX5_passRouter (wsV RX5 188 RX4 yX4_goOn wsX4_goOn) := goodIn_app (goodIn_of _ (by decide +kernel)) ggX5_passRouter_X4_goOn
theorem dX5_passRouter_0 : decode cX5_passRouter 0 = .ok (.aload_n 0, 1) := by decide +kernel
theorem dX5_passRouter_1 : decode cX5_passRouter 1 = .ok (.getfield 19, 3) := by decide +kernel
theorem dX5_passRouter_4 : decode cX5_passRouter 4 = .ok (.invokevirtual 181, 3) := by decide +kernel
theorem dX5_passRouter_7 : decode cX5_passRouter 7 = .ok (.bipush 100, 2) := by decide +kernel
theorem dX5_passRouter_9 : decode cX5_passRouter 9 = .ok (.irem, 1) := by decide +kernel
theorem dX5_passRouter_10 : decode cX5_passRouter 10 = .ok (.aload_n 0, 1) := by decide +kernel
theorem dX5_passRouter_11 : decode cX5_passRouter 11 = .ok (.getfield 41, 3) := by decide +kernel
theorem dX5_passRouter_14 : decode cX5_passRouter 14 = .ok (.if_icmp .ge 29, 3) := by decide +kernel
theorem dX5_passRouter_17 : decode cX5_passRouter 17 = .ok (.aload_n 0, 1) := by decide +kernel
theorem dX5_passRouter_18 : decode cX5_passRouter 18 = .ok (.getfield 19, 3) := by decide +kernel
theorem dX5_passRouter_21 : decode cX5_passRouter 21 = .ok (.invokevirtual 181, 3) := by decide +kernel
theorem dX5_passRouter_24 : decode cX5_passRouter 24 = .ok (.iconst 4, 1) := by decide +kernel
theorem dX5_passRouter_25 : decode cX5_passRouter 25 = .ok (.irem, 1) := by decide +kernel
theorem dX5_passRouter_26 : decode cX5_passRouter 26 = .ok (.istore_n 2, 1) := by decide +kernel
theorem dX5_passRouter_27 : decode cX5_passRouter 27 = .ok (.aload_n 0, 1) := by decide +kernel
theorem dX5_passRouter_28 : decode cX5_passRouter 28 = .ok (.getfield 26, 3) := by decide +kernel
theorem dX5_passRouter_31 : decode cX5_passRouter 31 = .ok (.iload_n 2, 1) := by decide +kernel
theorem dX5_passRouter_32 : decode cX5_passRouter 32 = .ok (.iload_n 1, 1) := by decide +kernel
theorem dX5_passRouter_33 : decode cX5_passRouter 33 = .ok (.iload_n 2, 1) := by decide +kernel
theorem dX5_passRouter_34 : decode cX5_passRouter 34 = .ok (.invokestatic 88, 3) := by decide +kernel
theorem dX5_passRouter_37 : decode cX5_passRouter 37 = .ok (.invokevirtual 184, 3) := by decide +kernel
theorem dX5_passRouter_40 : decode cX5_passRouter 40 = .ok (.goto 11, 3) := by decide +kernel
theorem dX5_passRouter_43 : decode cX5_passRouter 43 = .ok (.aload_n 0, 1) := by decide +kernel
theorem dX5_passRouter_44 : decode cX5_passRouter 44 = .ok (.getfield 26, 3) := by decide +kernel
theorem dX5_passRouter_47 : decode cX5_passRouter 47 = .ok (.iload_n 1, 1) := by decide +kernel
theorem dX5_passRouter_48 : decode cX5_passRouter 48 = .ok (.invokevirtual 188, 3) := by decide +kernel
theorem dX5_passRouter_51 : decode cX5_passRouter 51 = .ok (.return_, 1) := by decide +kernel
set_option maxRecDepth 20000 in
theorem ggX5_tryPackets_J7_fill_53178 : GoodIn wsX5_tryPackets wsJ7_fill_53178 := goodIn_r _ [7] (by decide +kernel) (by decide +kernel)
set_option maxRecDepth 20000 in
theorem gX5_tryPackets_J7_fill_53178 : GoodIn wsX5_tryPackets (va_wsS RX5 191 yJ7_fill_53178 wsJ7_fill_53178) := goodIn_app (goodIn_of _ (by decide +kernel)) ggX5_tryPackets_J7_fill_53178
set_option maxRecDepth 20000 in
theorem ggX5_tryPackets_X2_depthOf : GoodIn wsX5_tryPackets wsX2_depthOf := goodIn_r _ [12, 13, 14, 15, 16, 11, 17, 18, 19, 20, 21, 109, 110, 111, 112] (by decide +kernel) (by decide +kernel)
set_option maxRecDepth 20000 in
theorem gX5_tryPackets_X2_depthOf : GoodIn wsX5_tryPackets (wsV RX5 79 RX2 yX2_depthOf wsX2_depthOf) := goodIn_app (goodIn_of _ (by decide +kernel)) ggX5_tryPackets_X2_depthOf
set_option maxRecDepth 20000 in
theorem ggX5_tryPackets_X4_startUnmarked : GoodIn wsX5_tryPackets wsX4_startUnmarked := goodIn_r _ [26, 27, 28, 29, 30, 31, 25, 32, 33, 34, 35, 113, 114, 115, 116, 117] (by decide +kernel) (by decide +kernel)
set_option maxRecDepth 20000 in
theorem gX5_tryPackets_X4_startUnmarked : GoodIn wsX5_tryPackets (wsV RX5 103 RX4 yX4_startUnmarked wsX4_startUnmarked) := goodIn_app (goodIn_of _ (by decide +kernel)) ggX5_tryPackets_X4_startUnmarked
set_option maxRecDepth 20000 in
theorem ggX5_tryPackets_X5_carryToVictim : GoodIn wsX5_tryPackets wsX5_carryToVictim := goodIn_r _ [39, 2, 40, 15, 16, 11, 17, 18, 19, 20, 21, 41, 42, 43, 44, 45, 46, 47, 48, 49, 14, 50, 51, 52, 53, 54, 55, 56, 57, 58, 59, 60, 3, 61, 62, 63, 64, 65, 66, 67, 68, 69, 70, 71, 72, 73, 25, 74, 27, 28, 29, 30, 31, 32, 33, 34, 35, 75, 76, 77, 78, 79, 80, 81, 82, 83, 101, 102, 103, 104, 105, 106, 107, 108, 109, 110, 111, 112, 118, 113, 114, 115, 116, 117] (by decide +kernel) (by decide +kernel)
set_option maxRecDepth 20000 in
theorem gX5_tryPackets_X5_carryToVictim : GoodIn wsX5_tryPackets (wsV RX5 164 RX5 yX5_carryToVictim wsX5_carryToVictim) := goodIn_app (goodIn_of _ (by decide +kernel)) ggX5_tryPackets_X5_carryToVictim
set_option maxRecDepth 20000 in
theorem ggX5_tryPackets_X5_isNewOnPath : GoodIn wsX5_tryPackets wsX5_isNewOnPath := goodIn_r _ [87, 3, 1, 88, 89, 90, 25, 91, 33, 92, 93, 94, 95, 28, 96, 19, 20, 21, 97, 98, 99, 100, 34, 101, 102, 103, 104, 105, 106, 107, 108, 113, 114, 115, 116, 117] (by decide +kernel) (by decide +kernel)
set_option maxRecDepth 20000 in
theorem gX5_tryPackets_X5_isNewOnPath : GoodIn wsX5_tryPackets (wsV RX5 197 RX5 yX5_isNewOnPath wsX5_isNewOnPath) := goodIn_app (goodIn_of _ (by decide +kernel)) ggX5_tryPackets_X5_isNewOnPath
theorem dX5_tryPackets_0 : decode cX5_tryPackets 0 = .ok (.aload_n 0, 1) := by decide +kernel
theorem dX5_tryPackets_1 : decode cX5_tryPackets 1 = .ok (.getfield 37, 3) := by decide +kernel
theorem dX5_tryPackets_4 : decode cX5_tryPackets 4 = .ok (.iconst 0, 1) := by decide +kernel
theorem dX5_tryPackets_5 : decode cX5_tryPackets 5 = .ok (.invokestatic 191, 3) := by decide +kernel
theorem dX5_tryPackets_8 : decode cX5_tryPackets 8 = .ok (.aload_n 0, 1) := by decide +kernel
theorem dX5_tryPackets_9 : decode cX5_tryPackets 9 = .ok (.getfield 10, 3) := by decide +kernel
theorem dX5_tryPackets_12 : decode cX5_tryPackets 12 = .ok (.iload_n 1, 1) := by decide +kernel
theorem dX5_tryPackets_13 : decode cX5_tryPackets 13 = .ok (.invokevirtual 79, 3) := by decide +kernel
theorem dX5_tryPackets_16 : decode cX5_tryPackets 16 = .ok (.iconst 1, 1) := by decide +kernel
theorem dX5_tryPackets_17 : decode cX5_tryPackets 17 = .ok (.iadd, 1) := by decide +kernel
theorem dX5_tryPackets_18 : decode cX5_tryPackets 18 = .ok (.iconst 4, 1) := by decide +kernel
theorem dX5_tryPackets_19 : decode cX5_tryPackets 19 = .ok (.imul, 1) := by decide +kernel
theorem dX5_tryPackets_20 : decode cX5_tryPackets 20 = .ok (.istore_n 3, 1) := by decide +kernel
theorem dX5_tryPackets_21 : decode cX5_tryPackets 21 = .ok (.iconst 1, 1) := by decide +kernel
theorem dX5_tryPackets_22 : decode cX5_tryPackets 22 = .ok (.istore 4, 2) := by decide +kernel
theorem dX5_tryPackets_24 : decode cX5_tryPackets 24 = .ok (.iload 4, 2) := by decide +kernel
theorem dX5_tryPackets_26 : decode cX5_tryPackets 26 = .ok (.iload_n 2, 1) := by decide +kernel
theorem dX5_tryPackets_27 : decode cX5_tryPackets 27 = .ok (.if_icmp .gt 38, 3) := by decide +kernel
theorem dX5_tryPackets_30 : decode cX5_tryPackets 30 = .ok (.aload_n 0, 1) := by decide +kernel
theorem dX5_tryPackets_31 : decode cX5_tryPackets 31 = .ok (.getfield 26, 3) := by decide +kernel
theorem dX5_tryPackets_34 : decode cX5_tryPackets 34 = .ok (.invokevirtual 103, 3) := by decide +kernel
theorem dX5_tryPackets_37 : decode cX5_tryPackets 37 = .ok (.aload_n 0, 1) := by decide +kernel
theorem dX5_tryPackets_38 : decode cX5_tryPackets 38 = .ok (.iload_n 1, 1) := by decide +kernel
theorem dX5_tryPackets_39 : decode cX5_tryPackets 39 = .ok (.invokevirtual 164, 3) := by decide +kernel
theorem dX5_tryPackets_42 : decode cX5_tryPackets 42 = .ok (.aload_n 0, 1) := by decide +kernel
theorem dX5_tryPackets_43 : decode cX5_tryPackets 43 = .ok (.invokevirtual 197, 3) := by decide +kernel
theorem dX5_tryPackets_46 : decode cX5_tryPackets 46 = .ok (.ifCond .eq 6, 3) := by decide +kernel
theorem dX5_tryPackets_49 : decode cX5_tryPackets 49 = .ok (.iinc 3 (-1), 3) := by decide +kernel
theorem dX5_tryPackets_52 : decode cX5_tryPackets 52 = .ok (.iload_n 3, 1) := by decide +kernel
theorem dX5_tryPackets_53 : decode cX5_tryPackets 53 = .ok (.ifCond .ne 6, 3) := by decide +kernel
theorem dX5_tryPackets_56 : decode cX5_tryPackets 56 = .ok (.iload 4, 2) := by decide +kernel
theorem dX5_tryPackets_58 : decode cX5_tryPackets 58 = .ok (.ireturn, 1) := by decide +kernel
theorem dX5_tryPackets_59 : decode cX5_tryPackets 59 = .ok (.iinc 4 1, 3) := by decide +kernel
theorem dX5_tryPackets_62 : decode cX5_tryPackets 62 = .ok (.goto (-38), 3) := by decide +kernel
theorem dX5_tryPackets_65 : decode cX5_tryPackets 65 = .ok (.bipush (-7), 2) := by decide +kernel
theorem dX5_tryPackets_67 : decode cX5_tryPackets 67 = .ok (.ireturn, 1) := by decide +kernel
set_option maxRecDepth 20000 in
theorem ggX5_isNewOnPath_X4_distance : GoodIn wsX5_isNewOnPath wsX4_distance := goodIn_r _ [7, 8, 31, 32, 33, 34, 35] (by decide +kernel) (by decide +kernel)
set_option maxRecDepth 20000 in
theorem gX5_isNewOnPath_X4_distance : GoodIn wsX5_isNewOnPath (wsV RX5 200 RX4 yX4_distance wsX4_distance) := goodIn_app (goodIn_of _ (by decide +kernel)) ggX5_isNewOnPath_X4_distance
set_option maxRecDepth 20000 in
theorem ggX5_isNewOnPath_X4_isMarkedByRouter : GoodIn wsX5_isNewOnPath wsX4_isMarkedByRouter := goodIn_r _ [12, 13, 31, 32, 33, 34, 35] (by decide +kernel) (by decide +kernel)
set_option maxRecDepth 20000 in
theorem gX5_isNewOnPath_X4_isMarkedByRouter : GoodIn wsX5_isNewOnPath (wsV RX5 172 RX4 yX4_isMarkedByRouter wsX4_isMarkedByRouter) := goodIn_app (goodIn_of _ (by decide +kernel)) ggX5_isNewOnPath_X4_isMarkedByRouter
set_option maxRecDepth 20000 in
theorem ggX5_isNewOnPath_X5_isBelow : GoodIn wsX5_isNewOnPath wsX5_isBelow := goodIn_r _ [17] (by decide +kernel) (by decide +kernel)
set_option maxRecDepth 20000 in
theorem gX5_isNewOnPath_X5_isBelow : GoodIn wsX5_isNewOnPath (va_wsS RX5 63 yX5_isBelow wsX5_isBelow) := goodIn_app (goodIn_of _ (by decide +kernel)) ggX5_isNewOnPath_X5_isBelow
set_option maxRecDepth 20000 in
theorem ggX5_isNewOnPath_X4_offset : GoodIn wsX5_isNewOnPath wsX4_offset := goodIn_r _ [21, 22, 31, 32, 33, 34, 35] (by decide +kernel) (by decide +kernel)
set_option maxRecDepth 20000 in
theorem gX5_isNewOnPath_X4_offset : GoodIn wsX5_isNewOnPath (wsV RX5 203 RX4 yX4_offset wsX4_offset) := goodIn_app (goodIn_of _ (by decide +kernel)) ggX5_isNewOnPath_X4_offset
theorem dX5_isNewOnPath_0 : decode cX5_isNewOnPath 0 = .ok (.aload_n 0, 1) := by decide +kernel
theorem dX5_isNewOnPath_1 : decode cX5_isNewOnPath 1 = .ok (.getfield 26, 3) := by decide +kernel
theorem dX5_isNewOnPath_4 : decode cX5_isNewOnPath 4 = .ok (.invokevirtual 200, 3) := by decide +kernel
theorem dX5_isNewOnPath_7 : decode cX5_isNewOnPath 7 = .ok (.istore_n 1, 1) := by decide +kernel
theorem dX5_isNewOnPath_8 : decode cX5_isNewOnPath 8 = .ok (.aload_n 0, 1) := by decide +kernel
theorem dX5_isNewOnPath_9 : decode cX5_isNewOnPath 9 = .ok (.getfield 26, 3) := by decide +kernel
theorem dX5_isNewOnPath_12 : decode cX5_isNewOnPath 12 = .ok (.invokevirtual 172, 3) := by decide +kernel
theorem dX5_isNewOnPath_15 : decode cX5_isNewOnPath 15 = .ok (.ifCond .eq 12, 3) := by decide +kernel
theorem dX5_isNewOnPath_18 : decode cX5_isNewOnPath 18 = .ok (.iload_n 1, 1) := by decide +kernel
theorem dX5_isNewOnPath_19 : decode cX5_isNewOnPath 19 = .ok (.bipush 20, 2) := by decide +kernel
theorem dX5_isNewOnPath_21 : decode cX5_isNewOnPath 21 = .ok (.invokestatic 63, 3) := by decide +kernel
theorem dX5_isNewOnPath_24 : decode cX5_isNewOnPath 24 = .ok (.ifCond .ne 5, 3) := by decide +kernel
theorem dX5_isNewOnPath_27 : decode cX5_isNewOnPath 27 = .ok (.iconst 0, 1) := by decide +kernel
theorem dX5_isNewOnPath_28 : decode cX5_isNewOnPath 28 = .ok (.ireturn, 1) := by decide +kernel
theorem dX5_isNewOnPath_29 : decode cX5_isNewOnPath 29 = .ok (.aload_n 0, 1) := by decide +kernel
theorem dX5_isNewOnPath_30 : decode cX5_isNewOnPath 30 = .ok (.getfield 37, 3) := by decide +kernel
theorem dX5_isNewOnPath_33 : decode cX5_isNewOnPath 33 = .ok (.iload_n 1, 1) := by decide +kernel
theorem dX5_isNewOnPath_34 : decode cX5_isNewOnPath 34 = .ok (.iaload, 1) := by decide +kernel
theorem dX5_isNewOnPath_35 : decode cX5_isNewOnPath 35 = .ok (.istore_n 2, 1) := by decide +kernel
theorem dX5_isNewOnPath_36 : decode cX5_isNewOnPath 36 = .ok (.aload_n 0, 1) := by decide +kernel
theorem dX5_isNewOnPath_37 : decode cX5_isNewOnPath 37 = .ok (.getfield 37, 3) := by decide +kernel
theorem dX5_isNewOnPath_40 : decode cX5_isNewOnPath 40 = .ok (.iload_n 1, 1) := by decide +kernel
theorem dX5_isNewOnPath_41 : decode cX5_isNewOnPath 41 = .ok (.iload_n 2, 1) := by decide +kernel
theorem dX5_isNewOnPath_42 : decode cX5_isNewOnPath 42 = .ok (.iconst 1, 1) := by decide +kernel
theorem dX5_isNewOnPath_43 : decode cX5_isNewOnPath 43 = .ok (.aload_n 0, 1) := by decide +kernel
theorem dX5_isNewOnPath_44 : decode cX5_isNewOnPath 44 = .ok (.getfield 26, 3) := by decide +kernel
theorem dX5_isNewOnPath_47 : decode cX5_isNewOnPath 47 = .ok (.invokevirtual 203, 3) := by decide +kernel
theorem dX5_isNewOnPath_50 : decode cX5_isNewOnPath 50 = .ok (.ishl, 1) := by decide +kernel
theorem dX5_isNewOnPath_51 : decode cX5_isNewOnPath 51 = .ok (.ior, 1) := by decide +kernel
theorem dX5_isNewOnPath_52 : decode cX5_isNewOnPath 52 = .ok (.iastore, 1) := by decide +kernel
theorem dX5_isNewOnPath_53 : decode cX5_isNewOnPath 53 = .ok (.aload_n 0, 1) := by decide +kernel
theorem dX5_isNewOnPath_54 : decode cX5_isNewOnPath 54 = .ok (.getfield 37, 3) := by decide +kernel
theorem dX5_isNewOnPath_57 : decode cX5_isNewOnPath 57 = .ok (.iload_n 1, 1) := by decide +kernel
theorem dX5_isNewOnPath_58 : decode cX5_isNewOnPath 58 = .ok (.iaload, 1) := by decide +kernel
theorem dX5_isNewOnPath_59 : decode cX5_isNewOnPath 59 = .ok (.iload_n 2, 1) := by decide +kernel
theorem dX5_isNewOnPath_60 : decode cX5_isNewOnPath 60 = .ok (.if_icmp .eq 7, 3) := by decide +kernel
theorem dX5_isNewOnPath_63 : decode cX5_isNewOnPath 63 = .ok (.iconst 1, 1) := by decide +kernel
theorem dX5_isNewOnPath_64 : decode cX5_isNewOnPath 64 = .ok (.goto 4, 3) := by decide +kernel
theorem dX5_isNewOnPath_67 : decode cX5_isNewOnPath 67 = .ok (.iconst 0, 1) := by decide +kernel
theorem dX5_isNewOnPath_68 : decode cX5_isNewOnPath 68 = .ok (.ireturn, 1) := by decide +kernel
set_option maxRecDepth 20000 in
theorem ggX5_findTree_X3_size : GoodIn wsX5_findTree wsX3_size := goodIn_r _ [7, 8, 80, 81, 82, 83] (by decide +kernel) (by decide +kernel)
set_option maxRecDepth 20000 in
theorem gX5_findTree_X3_size : GoodIn wsX5_findTree (wsV RX5 152 RX3 yX3_size wsX3_size) := goodIn_app (goodIn_of _ (by decide +kernel)) ggX5_findTree_X3_size
set_option maxRecDepth 20000 in
theorem ggX5_findTree_X1_combinations : GoodIn wsX5_findTree wsX1_combinations := goodIn_r _ [13, 14, 15, 16, 12, 17, 18, 19, 20, 21, 22, 23, 24, 25, 26, 27, 28, 84, 85, 86, 87] (by decide +kernel) (by decide +kernel)
set_option maxRecDepth 20000 in
theorem gX5_findTree_X1_combinations : GoodIn wsX5_findTree (wsV RX5 206 RX1 yX1_combinations wsX1_combinations) := goodIn_app (goodIn_of _ (by decide +kernel)) ggX5_findTree_X1_combinations
set_option maxRecDepth 20000 in
theorem ggX5_findTree_X5_findLevel : GoodIn wsX5_findTree wsX5_findLevel := goodIn_r _ [33, 1, 34, 35, 36, 32, 37, 2, 38, 39, 40, 41, 42, 43, 44, 45, 46, 12, 47, 18, 19, 20, 21, 48, 49, 50, 51, 52, 53, 54, 55, 56, 57, 6, 58, 8, 59, 60, 61, 62, 63, 64, 65, 66, 67, 68, 69, 70, 71, 72, 73, 74, 75, 76, 77, 78, 79, 84, 85, 86, 87, 80, 81, 82, 83] (by decide +kernel) (by decide +kernel)
set_option maxRecDepth 20000 in
theorem gX5_findTree_X5_findLevel : GoodIn wsX5_findTree (wsV RX5 209 RX5 yX5_findLevel wsX5_findLevel) := goodIn_app (goodIn_of _ (by decide +kernel)) ggX5_findTree_X5_findLevel
theorem dX5_findTree_0 : decode cX5_findTree 0 = .ok (.iconst 0, 1) := by decide +kernel
theorem dX5_findTree_1 : decode cX5_findTree 1 = .ok (.istore_n 1, 1) := by decide +kernel
theorem dX5_findTree_2 : decode cX5_findTree 2 = .ok (.iconst 0, 1) := by decide +kernel
theorem dX5_findTree_3 : decode cX5_findTree 3 = .ok (.istore_n 2, 1) := by decide +kernel
theorem dX5_findTree_4 : decode cX5_findTree 4 = .ok (.iload_n 2, 1) := by decide +kernel
theorem dX5_findTree_5 : decode cX5_findTree 5 = .ok (.bipush 20, 2) := by decide +kernel
theorem dX5_findTree_7 : decode cX5_findTree 7 = .ok (.if_icmp .gt 58, 3) := by decide +kernel
theorem dX5_findTree_10 : decode cX5_findTree 10 = .ok (.aload_n 0, 1) := by decide +kernel
theorem dX5_findTree_11 : decode cX5_findTree 11 = .ok (.getfield 52, 3) := by decide +kernel
theorem dX5_findTree_14 : decode cX5_findTree 14 = .ok (.invokevirtual 152, 3) := by decide +kernel
theorem dX5_findTree_17 : decode cX5_findTree 17 = .ok (.istore_n 3, 1) := by decide +kernel
theorem dX5_findTree_18 : decode cX5_findTree 18 = .ok (.aload_n 0, 1) := by decide +kernel
theorem dX5_findTree_19 : decode cX5_findTree 19 = .ok (.getfield 33, 3) := by decide +kernel
theorem dX5_findTree_22 : decode cX5_findTree 22 = .ok (.iload_n 2, 1) := by decide +kernel
theorem dX5_findTree_23 : decode cX5_findTree 23 = .ok (.invokevirtual 206, 3) := by decide +kernel
theorem dX5_findTree_26 : decode cX5_findTree 26 = .ok (.sipush 4096, 3) := by decide +kernel
theorem dX5_findTree_29 : decode cX5_findTree 29 = .ok (.if_icmp .gt 13, 3) := by decide +kernel
theorem dX5_findTree_32 : decode cX5_findTree 32 = .ok (.aload_n 0, 1) := by decide +kernel
theorem dX5_findTree_33 : decode cX5_findTree 33 = .ok (.iload_n 2, 1) := by decide +kernel
theorem dX5_findTree_34 : decode cX5_findTree 34 = .ok (.iload_n 1, 1) := by decide +kernel
theorem dX5_findTree_35 : decode cX5_findTree 35 = .ok (.iload_n 3, 1) := by decide +kernel
theorem dX5_findTree_36 : decode cX5_findTree 36 = .ok (.invokevirtual 209, 3) := by decide +kernel
theorem dX5_findTree_39 : decode cX5_findTree 39 = .ok (.ifCond .ne 5, 3) := by decide +kernel
theorem dX5_findTree_42 : decode cX5_findTree 42 = .ok (.iconst 0, 1) := by decide +kernel
theorem dX5_findTree_43 : decode cX5_findTree 43 = .ok (.ireturn, 1) := by decide +kernel
theorem dX5_findTree_44 : decode cX5_findTree 44 = .ok (.aload_n 0, 1) := by decide +kernel
theorem dX5_findTree_45 : decode cX5_findTree 45 = .ok (.getfield 52, 3) := by decide +kernel
theorem dX5_findTree_48 : decode cX5_findTree 48 = .ok (.invokevirtual 152, 3) := by decide +kernel
theorem dX5_findTree_51 : decode cX5_findTree 51 = .ok (.iload_n 3, 1) := by decide +kernel
theorem dX5_findTree_52 : decode cX5_findTree 52 = .ok (.if_icmp .ne 5, 3) := by decide +kernel
theorem dX5_findTree_55 : decode cX5_findTree 55 = .ok (.iconst 1, 1) := by decide +kernel
theorem dX5_findTree_56 : decode cX5_findTree 56 = .ok (.ireturn, 1) := by decide +kernel
theorem dX5_findTree_57 : decode cX5_findTree 57 = .ok (.iload_n 3, 1) := by decide +kernel
theorem dX5_findTree_58 : decode cX5_findTree 58 = .ok (.istore_n 1, 1) := by decide +kernel
theorem dX5_findTree_59 : decode cX5_findTree 59 = .ok (.iinc 2 1, 3) := by decide +kernel
theorem dX5_findTree_62 : decode cX5_findTree 62 = .ok (.goto (-58), 3) := by decide +kernel
theorem dX5_findTree_65 : decode cX5_findTree 65 = .ok (.iconst 1, 1) := by decide +kernel
theorem dX5_findTree_66 : decode cX5_findTree 66 = .ok (.ireturn, 1) := by decide +kernel
set_option maxRecDepth 20000 in
theorem ggX5_findLevel_X5_findChildren : GoodIn wsX5_findLevel wsX5_findChildren := goodIn_r _ [6, 7, 1, 8, 9, 5, 10, 11, 12, 13, 14, 15, 16, 17, 18, 19, 20, 21, 22, 23, 24, 25, 26, 27, 28, 29, 30, 31, 32, 33, 34, 35, 36, 37, 38, 39, 40, 49, 50, 51, 52, 53, 54, 55, 56, 57, 58, 59, 60, 61, 62, 63, 64] (by decide +kernel) (by decide +kernel)
set_option maxRecDepth 20000 in
theorem gX5_findLevel_X5_findChildren : GoodIn wsX5_findLevel (wsV RX5 212 RX5 yX5_findChildren wsX5_findChildren) := goodIn_app (goodIn_of _ (by decide +kernel)) ggX5_findLevel_X5_findChildren
set_option maxRecDepth 20000 in
theorem ggX5_findLevel_X3_addressOf : GoodIn wsX5_findLevel wsX3_addressOf := goodIn_r _ [44, 36, 45, 46, 47, 33, 48, 35, 39, 5, 40, 61, 62, 63, 64] (by decide +kernel) (by decide +kernel)
set_option maxRecDepth 20000 in
theorem gX5_findLevel_X3_addressOf : GoodIn wsX5_findLevel (wsV RX5 154 RX3 yX3_addressOf wsX3_addressOf) := goodIn_app (goodIn_of _ (by decide +kernel)) ggX5_findLevel_X3_addressOf
set_option maxRecDepth 20000 in
theorem ggX5_findLevel_X5_wordOf : GoodIn wsX5_findLevel wsX5_wordOf := goodIn_r _ [10, 11, 12, 5, 13] (by decide +kernel) (by decide +kernel)
set_option maxRecDepth 20000 in
theorem gX5_findLevel_X5_wordOf : GoodIn wsX5_findLevel (va_wsS RX5 85 yX5_wordOf wsX5_wordOf) := goodIn_app (goodIn_of _ (by decide +kernel)) ggX5_findLevel_X5_wordOf
theorem dX5_findLevel_0 : decode cX5_findLevel 0 = .ok (.iload_n 1, 1) := by decide +kernel
theorem dX5_findLevel_1 : decode cX5_findLevel 1 = .ok (.ifCond .ne 12, 3) := by decide +kernel
theorem dX5_findLevel_4 : decode cX5_findLevel 4 = .ok (.aload_n 0, 1) := by decide +kernel
theorem dX5_findLevel_5 : decode cX5_findLevel 5 = .ok (.iconst 0, 1) := by decide +kernel
theorem dX5_findLevel_6 : decode cX5_findLevel 6 = .ok (.bipush (-7), 2) := by decide +kernel
theorem dX5_findLevel_8 : decode cX5_findLevel 8 = .ok (.iconst 0, 1) := by decide +kernel
theorem dX5_findLevel_9 : decode cX5_findLevel 9 = .ok (.invokevirtual 212, 3) := by decide +kernel
theorem dX5_findLevel_12 : decode cX5_findLevel 12 = .ok (.ireturn, 1) := by decide +kernel
theorem dX5_findLevel_13 : decode cX5_findLevel 13 = .ok (.iload_n 2, 1) := by decide +kernel
theorem dX5_findLevel_14 : decode cX5_findLevel 14 = .ok (.istore 4, 2) := by decide +kernel
theorem dX5_findLevel_16 : decode cX5_findLevel 16 = .ok (.iload 4, 2) := by decide +kernel
theorem dX5_findLevel_18 : decode cX5_findLevel 18 = .ok (.iload_n 3, 1) := by decide +kernel
theorem dX5_findLevel_19 : decode cX5_findLevel 19 = .ok (.if_icmp .ge 33, 3) := by decide +kernel
theorem dX5_findLevel_22 : decode cX5_findLevel 22 = .ok (.aload_n 0, 1) := by decide +kernel
theorem dX5_findLevel_23 : decode cX5_findLevel 23 = .ok (.iload_n 1, 1) := by decide +kernel
theorem dX5_findLevel_24 : decode cX5_findLevel 24 = .ok (.iload 4, 2) := by decide +kernel
theorem dX5_findLevel_26 : decode cX5_findLevel 26 = .ok (.aload_n 0, 1) := by decide +kernel
theorem dX5_findLevel_27 : decode cX5_findLevel 27 = .ok (.getfield 52, 3) := by decide +kernel
theorem dX5_findLevel_30 : decode cX5_findLevel 30 = .ok (.iload 4, 2) := by decide +kernel
theorem dX5_findLevel_32 : decode cX5_findLevel 32 = .ok (.invokevirtual 154, 3) := by decide +kernel
theorem dX5_findLevel_35 : decode cX5_findLevel 35 = .ok (.invokestatic 85, 3) := by decide +kernel
theorem dX5_findLevel_38 : decode cX5_findLevel 38 = .ok (.invokevirtual 212, 3) := by decide +kernel
theorem dX5_findLevel_41 : decode cX5_findLevel 41 = .ok (.ifCond .ne 5, 3) := by decide +kernel
theorem dX5_findLevel_44 : decode cX5_findLevel 44 = .ok (.iconst 0, 1) := by decide +kernel
theorem dX5_findLevel_45 : decode cX5_findLevel 45 = .ok (.ireturn, 1) := by decide +kernel
theorem dX5_findLevel_46 : decode cX5_findLevel 46 = .ok (.iinc 4 1, 3) := by decide +kernel
theorem dX5_findLevel_49 : decode cX5_findLevel 49 = .ok (.goto (-33), 3) := by decide +kernel
theorem dX5_findLevel_52 : decode cX5_findLevel 52 = .ok (.iconst 1, 1) := by decide +kernel
theorem dX5_findLevel_53 : decode cX5_findLevel 53 = .ok (.ireturn, 1) := by decide +kernel
set_option maxRecDepth 20000 in
theorem ggX5_findChildren_X5_wordOf : GoodIn wsX5_findChildren wsX5_wordOf := goodIn_r _ [6, 7, 8, 5, 9] (by decide +kernel) (by decide +kernel)
set_option maxRecDepth 20000 in
theorem gX5_findChildren_X5_wordOf : GoodIn wsX5_findChildren (va_wsS RX5 85 yX5_wordOf wsX5_wordOf) := goodIn_app (goodIn_of _ (by decide +kernel)) ggX5_findChildren_X5_wordOf
set_option maxRecDepth 20000 in
theorem ggX5_findChildren_X1_holdsPart : GoodIn wsX5_findChildren wsX1_holdsPart := goodIn_r _ [14, 15, 16, 17, 13, 18, 19, 5, 20, 45, 46, 47, 48] (by decide +kernel) (by decide +kernel)
set_option maxRecDepth 20000 in
theorem gX5_findChildren_X1_holdsPart : GoodIn wsX5_findChildren (wsV RX5 215 RX1 yX1_holdsPart wsX1_holdsPart) := goodIn_app (goodIn_of _ (by decide +kernel)) ggX5_findChildren_X1_holdsPart
set_option maxRecDepth 20000 in
theorem ggX5_findChildren_X1_holdsWord : GoodIn wsX5_findChildren wsX1_holdsWord := goodIn_r _ [24, 25, 11, 12, 13, 14, 15, 16, 17, 18, 19, 5, 20, 45, 46, 47, 48] (by decide +kernel) (by decide +kernel)
set_option maxRecDepth 20000 in
theorem gX5_findChildren_X1_holdsWord : GoodIn wsX5_findChildren (wsV RX5 136 RX1 yX1_holdsWord wsX1_holdsWord) := goodIn_app (goodIn_of _ (by decide +kernel)) ggX5_findChildren_X1_holdsWord
set_option maxRecDepth 20000 in
theorem ggX5_findChildren_X3_append : GoodIn wsX5_findChildren wsX3_append := goodIn_r _ [30, 31, 32, 33, 34, 35, 5, 36, 49, 50, 51, 52] (by decide +kernel) (by decide +kernel)
set_option maxRecDepth 20000 in
theorem gX5_findChildren_X3_append : GoodIn wsX5_findChildren (wsV RX5 218 RX3 yX3_append wsX3_append) := goodIn_app (goodIn_of _ (by decide +kernel)) ggX5_findChildren_X3_append
theorem dX5_findChildren_0 : decode cX5_findChildren 0 = .ok (.iconst 0, 1) := by decide +kernel
theorem dX5_findChildren_1 : decode cX5_findChildren 1 = .ok (.istore 4, 2) := by decide +kernel
theorem dX5_findChildren_3 : decode cX5_findChildren 3 = .ok (.iload 4, 2) := by decide +kernel
theorem dX5_findChildren_5 : decode cX5_findChildren 5 = .ok (.sipush 4096, 3) := by decide +kernel
theorem dX5_findChildren_8 : decode cX5_findChildren 8 = .ok (.if_icmp .ge 130, 3) := by decide +kernel
theorem dX5_findChildren_11 : decode cX5_findChildren 11 = .ok (.aload_n 0, 1) := by decide +kernel
theorem dX5_findChildren_12 : decode cX5_findChildren 12 = .ok (.getfield 33, 3) := by decide +kernel
theorem dX5_findChildren_15 : decode cX5_findChildren 15 = .ok (.iload_n 1, 1) := by decide +kernel
theorem dX5_findChildren_16 : decode cX5_findChildren 16 = .ok (.iconst 3, 1) := by decide +kernel
theorem dX5_findChildren_17 : decode cX5_findChildren 17 = .ok (.iload 4, 2) := by decide +kernel
theorem dX5_findChildren_19 : decode cX5_findChildren 19 = .ok (.invokestatic 85, 3) := by decide +kernel
theorem dX5_findChildren_22 : decode cX5_findChildren 22 = .ok (.iload_n 3, 1) := by decide +kernel
theorem dX5_findChildren_23 : decode cX5_findChildren 23 = .ok (.ixor, 1) := by decide +kernel
theorem dX5_findChildren_24 : decode cX5_findChildren 24 = .ok (.invokevirtual 215, 3) := by decide +kernel
theorem dX5_findChildren_27 : decode cX5_findChildren 27 = .ok (.ifCond .ne 6, 3) := by decide +kernel
theorem dX5_findChildren_30 : decode cX5_findChildren 30 = .ok (.goto 99, 3) := by decide +kernel
theorem dX5_findChildren_33 : decode cX5_findChildren 33 = .ok (.iload 4, 2) := by decide +kernel
theorem dX5_findChildren_35 : decode cX5_findChildren 35 = .ok (.istore 5, 2) := by decide +kernel
theorem dX5_findChildren_37 : decode cX5_findChildren 37 = .ok (.iload 5, 2) := by decide +kernel
theorem dX5_findChildren_39 : decode cX5_findChildren 39 = .ok (.iload 4, 2) := by decide +kernel
theorem dX5_findChildren_41 : decode cX5_findChildren 41 = .ok (.sipush 128, 3) := by decide +kernel
theorem dX5_findChildren_44 : decode cX5_findChildren 44 = .ok (.iadd, 1) := by decide +kernel
theorem dX5_findChildren_45 : decode cX5_findChildren 45 = .ok (.if_icmp .ge 84, 3) := by decide +kernel
theorem dX5_findChildren_48 : decode cX5_findChildren 48 = .ok (.aload_n 0, 1) := by decide +kernel
theorem dX5_findChildren_49 : decode cX5_findChildren 49 = .ok (.getfield 33, 3) := by decide +kernel
theorem dX5_findChildren_52 : decode cX5_findChildren 52 = .ok (.iload_n 1, 1) := by decide +kernel
theorem dX5_findChildren_53 : decode cX5_findChildren 53 = .ok (.iconst 2, 1) := by decide +kernel
theorem dX5_findChildren_54 : decode cX5_findChildren 54 = .ok (.iload 5, 2) := by decide +kernel
theorem dX5_findChildren_56 : decode cX5_findChildren 56 = .ok (.invokestatic 85, 3) := by decide +kernel
theorem dX5_findChildren_59 : decode cX5_findChildren 59 = .ok (.iload_n 3, 1) := by decide +kernel
theorem dX5_findChildren_60 : decode cX5_findChildren 60 = .ok (.ixor, 1) := by decide +kernel
theorem dX5_findChildren_61 : decode cX5_findChildren 61 = .ok (.invokevirtual 215, 3) := by decide +kernel
theorem dX5_findChildren_64 : decode cX5_findChildren 64 = .ok (.ifCond .ne 6, 3) := by decide +kernel
theorem dX5_findChildren_67 : decode cX5_findChildren 67 = .ok (.goto 56, 3) := by decide +kernel
theorem dX5_findChildren_70 : decode cX5_findChildren 70 = .ok (.iload 5, 2) := by decide +kernel
theorem dX5_findChildren_72 : decode cX5_findChildren 72 = .ok (.istore 6, 2) := by decide +kernel
theorem dX5_findChildren_74 : decode cX5_findChildren 74 = .ok (.iload 6, 2) := by decide +kernel
theorem dX5_findChildren_76 : decode cX5_findChildren 76 = .ok (.iload 5, 2) := by decide +kernel
theorem dX5_findChildren_78 : decode cX5_findChildren 78 = .ok (.iconst 4, 1) := by decide +kernel
theorem dX5_findChildren_79 : decode cX5_findChildren 79 = .ok (.iadd, 1) := by decide +kernel
theorem dX5_findChildren_80 : decode cX5_findChildren 80 = .ok (.if_icmp .ge 43, 3) := by decide +kernel
theorem dX5_findChildren_83 : decode cX5_findChildren 83 = .ok (.aload_n 0, 1) := by decide +kernel
theorem dX5_findChildren_84 : decode cX5_findChildren 84 = .ok (.getfield 33, 3) := by decide +kernel
theorem dX5_findChildren_87 : decode cX5_findChildren 87 = .ok (.iload_n 1, 1) := by decide +kernel
theorem dX5_findChildren_88 : decode cX5_findChildren 88 = .ok (.iload 6, 2) := by decide +kernel
theorem dX5_findChildren_90 : decode cX5_findChildren 90 = .ok (.invokestatic 85, 3) := by decide +kernel
theorem dX5_findChildren_93 : decode cX5_findChildren 93 = .ok (.iload_n 3, 1) := by decide +kernel
theorem dX5_findChildren_94 : decode cX5_findChildren 94 = .ok (.ixor, 1) := by decide +kernel
theorem dX5_findChildren_95 : decode cX5_findChildren 95 = .ok (.invokevirtual 136, 3) := by decide +kernel
theorem dX5_findChildren_98 : decode cX5_findChildren 98 = .ok (.ifCond .eq 19, 3) := by decide +kernel
theorem dX5_findChildren_101 : decode cX5_findChildren 101 = .ok (.aload_n 0, 1) := by decide +kernel
theorem dX5_findChildren_102 : decode cX5_findChildren 102 = .ok (.getfield 52, 3) := by decide +kernel
theorem dX5_findChildren_105 : decode cX5_findChildren 105 = .ok (.iload 6, 2) := by decide +kernel
theorem dX5_findChildren_107 : decode cX5_findChildren 107 = .ok (.iload_n 1, 1) := by decide +kernel
theorem dX5_findChildren_108 : decode cX5_findChildren 108 = .ok (.iload_n 2, 1) := by decide +kernel
theorem dX5_findChildren_109 : decode cX5_findChildren 109 = .ok (.invokevirtual 218, 3) := by decide +kernel
theorem dX5_findChildren_112 : decode cX5_findChildren 112 = .ok (.ifCond .ne 5, 3) := by decide +kernel
theorem dX5_findChildren_115 : decode cX5_findChildren 115 = .ok (.iconst 0, 1) := by decide +kernel
theorem dX5_findChildren_116 : decode cX5_findChildren 116 = .ok (.ireturn, 1) := by decide +kernel
theorem dX5_findChildren_117 : decode cX5_findChildren 117 = .ok (.iinc 6 1, 3) := by decide +kernel
theorem dX5_findChildren_120 : decode cX5_findChildren 120 = .ok (.goto (-46), 3) := by decide +kernel
theorem dX5_findChildren_123 : decode cX5_findChildren 123 = .ok (.iinc 5 4, 3) := by decide +kernel
theorem dX5_findChildren_126 : decode cX5_findChildren 126 = .ok (.goto (-89), 3) := by decide +kernel
theorem dX5_findChildren_129 : decode cX5_findChildren 129 = .ok (.iinc 4 128, 6) := by decide +kernel
theorem dX5_findChildren_135 : decode cX5_findChildren 135 = .ok (.goto (-132), 3) := by decide +kernel
theorem dX5_findChildren_138 : decode cX5_findChildren 138 = .ok (.iconst 1, 1) := by decide +kernel
theorem dX5_findChildren_139 : decode cX5_findChildren 139 = .ok (.ireturn, 1) := by decide +kernel
set_option maxRecDepth 20000 in
theorem ggX5_routerBehind_X3_addressOf : GoodIn wsX5_routerBehind wsX3_addressOf := goodIn_r _ [7, 8, 9, 10, 11, 6, 12, 13, 14, 15, 16, 52, 53, 54, 55] (by decide +kernel) (by decide +kernel)
set_option maxRecDepth 20000 in
theorem gX5_routerBehind_X3_addressOf : GoodIn wsX5_routerBehind (wsV RX5 154 RX3 yX3_addressOf wsX3_addressOf) := goodIn_app (goodIn_of _ (by decide +kernel)) ggX5_routerBehind_X3_addressOf
set_option maxRecDepth 20000 in
theorem ggX5_routerBehind_X2_find : GoodIn wsX5_routerBehind wsX2_find := goodIn_r _ [21, 22, 23, 56, 57, 58, 59] (by decide +kernel) (by decide +kernel)
set_option maxRecDepth 20000 in
theorem gX5_routerBehind_X2_find : GoodIn wsX5_routerBehind (wsV RX5 67 RX2 yX2_find wsX2_find) := goodIn_app (goodIn_of _ (by decide +kernel)) ggX5_routerBehind_X2_find
set_option maxRecDepth 20000 in
theorem ggX5_routerBehind_X2_has : GoodIn wsX5_routerBehind wsX2_has := goodIn_r _ [27, 22, 14, 15, 16, 56, 57, 58, 59] (by decide +kernel) (by decide +kernel)
set_option maxRecDepth 20000 in
theorem gX5_routerBehind_X2_has : GoodIn wsX5_routerBehind (wsV RX5 59 RX2 yX2_has wsX2_has) := goodIn_app (goodIn_of _ (by decide +kernel)) ggX5_routerBehind_X2_has
set_option maxRecDepth 20000 in
theorem ggX5_routerBehind_X3_has : GoodIn wsX5_routerBehind wsX3_has := goodIn_r _ [12, 13, 14, 15, 16, 52, 53, 54, 55] (by decide +kernel) (by decide +kernel)
set_option maxRecDepth 20000 in
theorem gX5_routerBehind_X3_has : GoodIn wsX5_routerBehind (wsV RX5 153 RX3 yX3_has wsX3_has) := goodIn_app (goodIn_of _ (by decide +kernel)) ggX5_routerBehind_X3_has
set_option maxRecDepth 20000 in
theorem ggX5_routerBehind_X2_addressOf : GoodIn wsX5_routerBehind wsX2_addressOf := goodIn_r _ [32, 23, 33, 25, 26, 20, 27, 22, 14, 15, 16, 56, 57, 58, 59] (by decide +kernel) (by decide +kernel)
set_option maxRecDepth 20000 in
theorem gX5_routerBehind_X2_addressOf : GoodIn wsX5_routerBehind (wsV RX5 220 RX2 yX2_addressOf wsX2_addressOf) := goodIn_app (goodIn_of _ (by decide +kernel)) ggX5_routerBehind_X2_addressOf
set_option maxRecDepth 20000 in
theorem ggX5_routerBehind_X2_parentOf : GoodIn wsX5_routerBehind wsX2_parentOf := goodIn_r _ [37, 38, 33, 25, 26, 20, 27, 22, 14, 15, 16, 56, 57, 58, 59] (by decide +kernel) (by decide +kernel)
set_option maxRecDepth 20000 in
theorem gX5_routerBehind_X2_parentOf : GoodIn wsX5_routerBehind (wsV RX5 139 RX2 yX2_parentOf wsX2_parentOf) := goodIn_app (goodIn_of _ (by decide +kernel)) ggX5_routerBehind_X2_parentOf
set_option maxRecDepth 20000 in
theorem ggX5_routerBehind_X3_parentOf : GoodIn wsX5_routerBehind wsX3_parentOf := goodIn_r _ [42, 43, 9, 10, 11, 6, 12, 13, 14, 15, 16, 52, 53, 54, 55] (by decide +kernel) (by decide +kernel)
set_option maxRecDepth 20000 in
theorem gX5_routerBehind_X3_parentOf : GoodIn wsX5_routerBehind (wsV RX5 160 RX3 yX3_parentOf wsX3_parentOf) := goodIn_app (goodIn_of _ (by decide +kernel)) ggX5_routerBehind_X3_parentOf
theorem dX5_routerBehind_0 : decode cX5_routerBehind 0 = .ok (.aload_n 0, 1) := by decide +kernel
theorem dX5_routerBehind_1 : decode cX5_routerBehind 1 = .ok (.getfield 10, 3) := by decide +kernel
theorem dX5_routerBehind_4 : decode cX5_routerBehind 4 = .ok (.aload_n 0, 1) := by decide +kernel
theorem dX5_routerBehind_5 : decode cX5_routerBehind 5 = .ok (.getfield 48, 3) := by decide +kernel
theorem dX5_routerBehind_8 : decode cX5_routerBehind 8 = .ok (.iload_n 1, 1) := by decide +kernel
theorem dX5_routerBehind_9 : decode cX5_routerBehind 9 = .ok (.invokevirtual 154, 3) := by decide +kernel
theorem dX5_routerBehind_12 : decode cX5_routerBehind 12 = .ok (.invokevirtual 67, 3) := by decide +kernel
theorem dX5_routerBehind_15 : decode cX5_routerBehind 15 = .ok (.istore_n 2, 1) := by decide +kernel
theorem dX5_routerBehind_16 : decode cX5_routerBehind 16 = .ok (.iload_n 2, 1) := by decide +kernel
theorem dX5_routerBehind_17 : decode cX5_routerBehind 17 = .ok (.istore_n 3, 1) := by decide +kernel
theorem dX5_routerBehind_18 : decode cX5_routerBehind 18 = .ok (.iload_n 1, 1) := by decide +kernel
theorem dX5_routerBehind_19 : decode cX5_routerBehind 19 = .ok (.istore 4, 2) := by decide +kernel
theorem dX5_routerBehind_21 : decode cX5_routerBehind 21 = .ok (.iconst 0, 1) := by decide +kernel
theorem dX5_routerBehind_22 : decode cX5_routerBehind 22 = .ok (.istore 5, 2) := by decide +kernel
theorem dX5_routerBehind_24 : decode cX5_routerBehind 24 = .ok (.iload 5, 2) := by decide +kernel
theorem dX5_routerBehind_26 : decode cX5_routerBehind 26 = .ok (.bipush 20, 2) := by decide +kernel
theorem dX5_routerBehind_28 : decode cX5_routerBehind 28 = .ok (.if_icmp .ge 75, 3) := by decide +kernel
theorem dX5_routerBehind_31 : decode cX5_routerBehind 31 = .ok (.aload_n 0, 1) := by decide +kernel
theorem dX5_routerBehind_32 : decode cX5_routerBehind 32 = .ok (.getfield 10, 3) := by decide +kernel
theorem dX5_routerBehind_35 : decode cX5_routerBehind 35 = .ok (.iload_n 3, 1) := by decide +kernel
theorem dX5_routerBehind_36 : decode cX5_routerBehind 36 = .ok (.invokevirtual 59, 3) := by decide +kernel
theorem dX5_routerBehind_39 : decode cX5_routerBehind 39 = .ok (.ifCond .eq 64, 3) := by decide +kernel
theorem dX5_routerBehind_42 : decode cX5_routerBehind 42 = .ok (.aload_n 0, 1) := by decide +kernel
theorem dX5_routerBehind_43 : decode cX5_routerBehind 43 = .ok (.getfield 48, 3) := by decide +kernel
theorem dX5_routerBehind_46 : decode cX5_routerBehind 46 = .ok (.iload 4, 2) := by decide +kernel
theorem dX5_routerBehind_48 : decode cX5_routerBehind 48 = .ok (.invokevirtual 153, 3) := by decide +kernel
theorem dX5_routerBehind_51 : decode cX5_routerBehind 51 = .ok (.ifCond .eq 52, 3) := by decide +kernel
theorem dX5_routerBehind_54 : decode cX5_routerBehind 54 = .ok (.aload_n 0, 1) := by decide +kernel
theorem dX5_routerBehind_55 : decode cX5_routerBehind 55 = .ok (.getfield 10, 3) := by decide +kernel
theorem dX5_routerBehind_58 : decode cX5_routerBehind 58 = .ok (.iload_n 3, 1) := by decide +kernel
theorem dX5_routerBehind_59 : decode cX5_routerBehind 59 = .ok (.invokevirtual 220, 3) := by decide +kernel
theorem dX5_routerBehind_62 : decode cX5_routerBehind 62 = .ok (.aload_n 0, 1) := by decide +kernel
theorem dX5_routerBehind_63 : decode cX5_routerBehind 63 = .ok (.getfield 48, 3) := by decide +kernel
theorem dX5_routerBehind_66 : decode cX5_routerBehind 66 = .ok (.iload 4, 2) := by decide +kernel
theorem dX5_routerBehind_68 : decode cX5_routerBehind 68 = .ok (.invokevirtual 154, 3) := by decide +kernel
theorem dX5_routerBehind_71 : decode cX5_routerBehind 71 = .ok (.if_icmp .eq 6, 3) := by decide +kernel
theorem dX5_routerBehind_74 : decode cX5_routerBehind 74 = .ok (.bipush (-7), 2) := by decide +kernel
theorem dX5_routerBehind_76 : decode cX5_routerBehind 76 = .ok (.ireturn, 1) := by decide +kernel
theorem dX5_routerBehind_77 : decode cX5_routerBehind 77 = .ok (.aload_n 0, 1) := by decide +kernel
theorem dX5_routerBehind_78 : decode cX5_routerBehind 78 = .ok (.getfield 10, 3) := by decide +kernel
theorem dX5_routerBehind_81 : decode cX5_routerBehind 81 = .ok (.iload_n 3, 1) := by decide +kernel
theorem dX5_routerBehind_82 : decode cX5_routerBehind 82 = .ok (.invokevirtual 139, 3) := by decide +kernel
theorem dX5_routerBehind_85 : decode cX5_routerBehind 85 = .ok (.istore_n 3, 1) := by decide +kernel
theorem dX5_routerBehind_86 : decode cX5_routerBehind 86 = .ok (.aload_n 0, 1) := by decide +kernel
theorem dX5_routerBehind_87 : decode cX5_routerBehind 87 = .ok (.getfield 48, 3) := by decide +kernel
theorem dX5_routerBehind_90 : decode cX5_routerBehind 90 = .ok (.iload 4, 2) := by decide +kernel
theorem dX5_routerBehind_92 : decode cX5_routerBehind 92 = .ok (.invokevirtual 160, 3) := by decide +kernel
theorem dX5_routerBehind_95 : decode cX5_routerBehind 95 = .ok (.istore 4, 2) := by decide +kernel
theorem dX5_routerBehind_97 : decode cX5_routerBehind 97 = .ok (.iinc 5 1, 3) := by decide +kernel
theorem dX5_routerBehind_100 : decode cX5_routerBehind 100 = .ok (.goto (-76), 3) := by decide +kernel
theorem dX5_routerBehind_103 : decode cX5_routerBehind 103 = .ok (.aload_n 0, 1) := by decide +kernel
theorem dX5_routerBehind_104 : decode cX5_routerBehind 104 = .ok (.getfield 10, 3) := by decide +kernel
theorem dX5_routerBehind_107 : decode cX5_routerBehind 107 = .ok (.iload_n 3, 1) := by decide +kernel
theorem dX5_routerBehind_108 : decode cX5_routerBehind 108 = .ok (.invokevirtual 59, 3) := by decide +kernel
theorem dX5_routerBehind_111 : decode cX5_routerBehind 111 = .ok (.ifCond .ne 15, 3) := by decide +kernel
theorem dX5_routerBehind_114 : decode cX5_routerBehind 114 = .ok (.aload_n 0, 1) := by decide +kernel
theorem dX5_routerBehind_115 : decode cX5_routerBehind 115 = .ok (.getfield 48, 3) := by decide +kernel
theorem dX5_routerBehind_118 : decode cX5_routerBehind 118 = .ok (.iload 4, 2) := by decide +kernel
theorem dX5_routerBehind_120 : decode cX5_routerBehind 120 = .ok (.invokevirtual 153, 3) := by decide +kernel
theorem dX5_routerBehind_123 : decode cX5_routerBehind 123 = .ok (.ifCond .eq 8, 3) := by decide +kernel
theorem dX5_routerBehind_126 : decode cX5_routerBehind 126 = .ok (.bipush (-7), 2) := by decide +kernel
theorem dX5_routerBehind_128 : decode cX5_routerBehind 128 = .ok (.goto 4, 3) := by decide +kernel
theorem dX5_routerBehind_131 : decode cX5_routerBehind 131 = .ok (.iload_n 2, 1) := by decide +kernel
theorem dX5_routerBehind_132 : decode cX5_routerBehind 132 = .ok (.ireturn, 1) := by decide +kernel

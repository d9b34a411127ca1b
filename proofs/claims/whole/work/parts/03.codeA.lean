theorem dX0_init_0 : decode cX0_init 0 = .ok (.aload_n 0, 1) := by decide +kernel
theorem dX0_init_1 : decode cX0_init 1 = .ok (.invokespecial 1, 3) := by decide +kernel
theorem dX0_init_4 : decode cX0_init 4 = .ok (.aload_n 0, 1) := by decide +kernel
theorem dX0_init_5 : decode cX0_init 5 = .ok (.iconst 1, 1) := by decide +kernel
theorem dX0_init_6 : decode cX0_init 6 = .ok (.putfield 7, 3) := by decide +kernel
theorem dX0_init_9 : decode cX0_init 9 = .ok (.return_, 1) := by decide +kernel
theorem dX0_state_0 : decode cX0_state 0 = .ok (.aload_n 0, 1) := by decide +kernel
theorem dX0_state_1 : decode cX0_state 1 = .ok (.getfield 7, 3) := by decide +kernel
theorem dX0_state_4 : decode cX0_state 4 = .ok (.ireturn, 1) := by decide +kernel
theorem dX0_restart_0 : decode cX0_restart 0 = .ok (.aload_n 0, 1) := by decide +kernel
theorem dX0_restart_1 : decode cX0_restart 1 = .ok (.getfield 7, 3) := by decide +kernel
theorem dX0_restart_4 : decode cX0_restart 4 = .ok (.istore_n 2, 1) := by decide +kernel
theorem dX0_restart_5 : decode cX0_restart 5 = .ok (.aload_n 0, 1) := by decide +kernel
theorem dX0_restart_6 : decode cX0_restart 6 = .ok (.iload_n 1, 1) := by decide +kernel
theorem dX0_restart_7 : decode cX0_restart 7 = .ok (.putfield 7, 3) := by decide +kernel
theorem dX0_restart_10 : decode cX0_restart 10 = .ok (.iload_n 2, 1) := by decide +kernel
theorem dX0_restart_11 : decode cX0_restart 11 = .ok (.ireturn, 1) := by decide +kernel
theorem dX0_draw_0 : decode cX0_draw 0 = .ok (.aload_n 0, 1) := by decide +kernel
theorem dX0_draw_1 : decode cX0_draw 1 = .ok (.aload_n 0, 1) := by decide +kernel
theorem dX0_draw_2 : decode cX0_draw 2 = .ok (.getfield 7, 3) := by decide +kernel
theorem dX0_draw_5 : decode cX0_draw 5 = .ok (.ldc 13, 2) := by decide +kernel
theorem dX0_draw_7 : decode cX0_draw 7 = .ok (.imul, 1) := by decide +kernel
theorem dX0_draw_8 : decode cX0_draw 8 = .ok (.sipush 12345, 3) := by decide +kernel
theorem dX0_draw_11 : decode cX0_draw 11 = .ok (.iadd, 1) := by decide +kernel
theorem dX0_draw_12 : decode cX0_draw 12 = .ok (.putfield 7, 3) := by decide +kernel
theorem dX0_draw_15 : decode cX0_draw 15 = .ok (.aload_n 0, 1) := by decide +kernel
theorem dX0_draw_16 : decode cX0_draw 16 = .ok (.getfield 7, 3) := by decide +kernel
theorem dX0_draw_19 : decode cX0_draw 19 = .ok (.bipush 16, 2) := by decide +kernel
theorem dX0_draw_21 : decode cX0_draw 21 = .ok (.iushr, 1) := by decide +kernel
theorem dX0_draw_22 : decode cX0_draw 22 = .ok (.sipush 32767, 3) := by decide +kernel
theorem dX0_draw_25 : decode cX0_draw 25 = .ok (.iand, 1) := by decide +kernel
theorem dX0_draw_26 : decode cX0_draw 26 = .ok (.ireturn, 1) := by decide +kernel
theorem dX1_init_0 : decode cX1_init 0 = .ok (.aload_n 0, 1) := by decide +kernel
theorem dX1_init_1 : decode cX1_init 1 = .ok (.invokespecial 3, 3) := by decide +kernel
theorem dX1_init_4 : decode cX1_init 4 = .ok (.aload_n 0, 1) := by decide +kernel
theorem dX1_init_5 : decode cX1_init 5 = .ok (.sipush 4096, 3) := by decide +kernel
theorem dX1_init_8 : decode cX1_init 8 = .ok (.newarray .int, 2) := by decide +kernel
theorem dX1_init_10 : decode cX1_init 10 = .ok (.putfield 9, 3) := by decide +kernel
theorem dX1_init_13 : decode cX1_init 13 = .ok (.aload_n 0, 1) := by decide +kernel
theorem dX1_init_14 : decode cX1_init 14 = .ok (.sipush 128, 3) := by decide +kernel
theorem dX1_init_17 : decode cX1_init 17 = .ok (.newarray .int, 2) := by decide +kernel
theorem dX1_init_19 : decode cX1_init 19 = .ok (.putfield 15, 3) := by decide +kernel
theorem dX1_init_22 : decode cX1_init 22 = .ok (.aload_n 0, 1) := by decide +kernel
theorem dX1_init_23 : decode cX1_init 23 = .ok (.iconst 0, 1) := by decide +kernel
theorem dX1_init_24 : decode cX1_init 24 = .ok (.putfield 18, 3) := by decide +kernel
theorem dX1_init_27 : decode cX1_init 27 = .ok (.aload_n 0, 1) := by decide +kernel
theorem dX1_init_28 : decode cX1_init 28 = .ok (.iconst 0, 1) := by decide +kernel
theorem dX1_init_29 : decode cX1_init 29 = .ok (.putfield 22, 3) := by decide +kernel
theorem dX1_init_32 : decode cX1_init 32 = .ok (.return_, 1) := by decide +kernel
theorem dX1_setPlace_0 : decode cX1_setPlace 0 = .ok (.iload_n 0, 1) := by decide +kernel
theorem dX1_setPlace_1 : decode cX1_setPlace 1 = .ok (.bipush 31, 2) := by decide +kernel
theorem dX1_setPlace_3 : decode cX1_setPlace 3 = .ok (.iand, 1) := by decide +kernel
theorem dX1_setPlace_4 : decode cX1_setPlace 4 = .ok (.iconst 4, 1) := by decide +kernel
theorem dX1_setPlace_5 : decode cX1_setPlace 5 = .ok (.imul, 1) := by decide +kernel
theorem dX1_setPlace_6 : decode cX1_setPlace 6 = .ok (.iload_n 1, 1) := by decide +kernel
theorem dX1_setPlace_7 : decode cX1_setPlace 7 = .ok (.iconst 3, 1) := by decide +kernel
theorem dX1_setPlace_8 : decode cX1_setPlace 8 = .ok (.iand, 1) := by decide +kernel
theorem dX1_setPlace_9 : decode cX1_setPlace 9 = .ok (.iadd, 1) := by decide +kernel
theorem dX1_setPlace_10 : decode cX1_setPlace 10 = .ok (.ireturn, 1) := by decide +kernel
set_option maxRecDepth 20000 in
theorem ggX1_countPlace_X1_setPlace : GoodIn wsX1_countPlace wsX1_setPlace := goodIn_r _ [4] (by decide +kernel) (by decide +kernel)
set_option maxRecDepth 20000 in
theorem gX1_countPlace_X1_setPlace : GoodIn wsX1_countPlace (va_wsS RX1 25 yX1_setPlace wsX1_setPlace) := goodIn_app (goodIn_of _ (by decide +kernel)) ggX1_countPlace_X1_setPlace
theorem dX1_countPlace_0 : decode cX1_countPlace 0 = .ok (.iload_n 0, 1) := by decide +kernel
theorem dX1_countPlace_1 : decode cX1_countPlace 1 = .ok (.iload_n 1, 1) := by decide +kernel
theorem dX1_countPlace_2 : decode cX1_countPlace 2 = .ok (.invokestatic 25, 3) := by decide +kernel
theorem dX1_countPlace_5 : decode cX1_countPlace 5 = .ok (.bipush 32, 2) := by decide +kernel
theorem dX1_countPlace_7 : decode cX1_countPlace 7 = .ok (.imul, 1) := by decide +kernel
theorem dX1_countPlace_8 : decode cX1_countPlace 8 = .ok (.iload_n 2, 1) := by decide +kernel
theorem dX1_countPlace_9 : decode cX1_countPlace 9 = .ok (.bipush 31, 2) := by decide +kernel
theorem dX1_countPlace_11 : decode cX1_countPlace 11 = .ok (.iand, 1) := by decide +kernel
theorem dX1_countPlace_12 : decode cX1_countPlace 12 = .ok (.iadd, 1) := by decide +kernel
theorem dX1_countPlace_13 : decode cX1_countPlace 13 = .ok (.ireturn, 1) := by decide +kernel
set_option maxRecDepth 20000 in
theorem ggX1_clear_J7_fill_53178 : GoodIn wsX1_clear wsJ7_fill_53178 := goodIn_r _ [8] (by decide +kernel) (by decide +kernel)
set_option maxRecDepth 20000 in
theorem gX1_clear_J7_fill_53178 : GoodIn wsX1_clear (va_wsS RX1 29 yJ7_fill_53178 wsJ7_fill_53178) := goodIn_app (goodIn_of _ (by decide +kernel)) ggX1_clear_J7_fill_53178
theorem dX1_clear_0 : decode cX1_clear 0 = .ok (.aload_n 0, 1) := by decide +kernel
theorem dX1_clear_1 : decode cX1_clear 1 = .ok (.getfield 9, 3) := by decide +kernel
theorem dX1_clear_4 : decode cX1_clear 4 = .ok (.iconst 0, 1) := by decide +kernel
theorem dX1_clear_5 : decode cX1_clear 5 = .ok (.invokestatic 29, 3) := by decide +kernel
theorem dX1_clear_8 : decode cX1_clear 8 = .ok (.aload_n 0, 1) := by decide +kernel
theorem dX1_clear_9 : decode cX1_clear 9 = .ok (.getfield 15, 3) := by decide +kernel
theorem dX1_clear_12 : decode cX1_clear 12 = .ok (.iconst 0, 1) := by decide +kernel
theorem dX1_clear_13 : decode cX1_clear 13 = .ok (.invokestatic 29, 3) := by decide +kernel
theorem dX1_clear_16 : decode cX1_clear 16 = .ok (.aload_n 0, 1) := by decide +kernel
theorem dX1_clear_17 : decode cX1_clear 17 = .ok (.iconst 0, 1) := by decide +kernel
theorem dX1_clear_18 : decode cX1_clear 18 = .ok (.putfield 18, 3) := by decide +kernel
theorem dX1_clear_21 : decode cX1_clear 21 = .ok (.aload_n 0, 1) := by decide +kernel
theorem dX1_clear_22 : decode cX1_clear 22 = .ok (.iconst 0, 1) := by decide +kernel
theorem dX1_clear_23 : decode cX1_clear 23 = .ok (.putfield 22, 3) := by decide +kernel
theorem dX1_clear_26 : decode cX1_clear 26 = .ok (.return_, 1) := by decide +kernel
set_option maxRecDepth 20000 in
theorem ggX1_note_X4_isMarked : GoodIn wsX1_note wsX4_isMarked := goodIn_r _ [9, 10, 37, 38, 39, 40, 41] (by decide +kernel) (by decide +kernel)
set_option maxRecDepth 20000 in
theorem gX1_note_X4_isMarked : GoodIn wsX1_note (wsV RX1 35 RX4 yX4_isMarked wsX4_isMarked) := goodIn_app (goodIn_of _ (by decide +kernel)) ggX1_note_X4_isMarked
set_option maxRecDepth 20000 in
theorem ggX1_note_X4_fragmentValue : GoodIn wsX1_note wsX4_fragmentValue := goodIn_r _ [14, 15, 37, 38, 39, 40, 41] (by decide +kernel) (by decide +kernel)
set_option maxRecDepth 20000 in
theorem gX1_note_X4_fragmentValue : GoodIn wsX1_note (wsV RX1 41 RX4 yX4_fragmentValue wsX4_fragmentValue) := goodIn_app (goodIn_of _ (by decide +kernel)) ggX1_note_X4_fragmentValue
set_option maxRecDepth 20000 in
theorem ggX1_note_X4_distance : GoodIn wsX1_note wsX4_distance := goodIn_r _ [19, 20, 37, 38, 39, 40, 41] (by decide +kernel) (by decide +kernel)
set_option maxRecDepth 20000 in
theorem gX1_note_X4_distance : GoodIn wsX1_note (wsV RX1 45 RX4 yX4_distance wsX4_distance) := goodIn_app (goodIn_of _ (by decide +kernel)) ggX1_note_X4_distance
set_option maxRecDepth 20000 in
theorem ggX1_note_X4_offset : GoodIn wsX1_note wsX4_offset := goodIn_r _ [24, 25, 37, 38, 39, 40, 41] (by decide +kernel) (by decide +kernel)
set_option maxRecDepth 20000 in
theorem gX1_note_X4_offset : GoodIn wsX1_note (wsV RX1 48 RX4 yX4_offset wsX4_offset) := goodIn_app (goodIn_of _ (by decide +kernel)) ggX1_note_X4_offset
set_option maxRecDepth 20000 in
theorem ggX1_note_X1_countPlace : GoodIn wsX1_note wsX1_countPlace := goodIn_r _ [29, 30, 31, 28, 32] (by decide +kernel) (by decide +kernel)
set_option maxRecDepth 20000 in
theorem gX1_note_X1_countPlace : GoodIn wsX1_note (va_wsS RX1 51 yX1_countPlace wsX1_countPlace) := goodIn_app (goodIn_of _ (by decide +kernel)) ggX1_note_X1_countPlace
set_option maxRecDepth 20000 in
theorem ggX1_note_X1_setPlace : GoodIn wsX1_note wsX1_setPlace := goodIn_r _ [32] (by decide +kernel) (by decide +kernel)
set_option maxRecDepth 20000 in
theorem gX1_note_X1_setPlace : GoodIn wsX1_note (va_wsS RX1 25 yX1_setPlace wsX1_setPlace) := goodIn_app (goodIn_of _ (by decide +kernel)) ggX1_note_X1_setPlace
theorem dX1_note_0 : decode cX1_note 0 = .ok (.aload_n 1, 1) := by decide +kernel
theorem dX1_note_1 : decode cX1_note 1 = .ok (.ifnonnull 4, 3) := by decide +kernel
theorem dX1_note_4 : decode cX1_note 4 = .ok (.return_, 1) := by decide +kernel
theorem dX1_note_5 : decode cX1_note 5 = .ok (.aload_n 1, 1) := by decide +kernel
theorem dX1_note_6 : decode cX1_note 6 = .ok (.invokevirtual 35, 3) := by decide +kernel
theorem dX1_note_9 : decode cX1_note 9 = .ok (.ifCond .ne 14, 3) := by decide +kernel
theorem dX1_note_12 : decode cX1_note 12 = .ok (.aload_n 0, 1) := by decide +kernel
theorem dX1_note_13 : decode cX1_note 13 = .ok (.dup, 1) := by decide +kernel
theorem dX1_note_14 : decode cX1_note 14 = .ok (.getfield 18, 3) := by decide +kernel
theorem dX1_note_17 : decode cX1_note 17 = .ok (.iconst 1, 1) := by decide +kernel
theorem dX1_note_18 : decode cX1_note 18 = .ok (.iadd, 1) := by decide +kernel
theorem dX1_note_19 : decode cX1_note 19 = .ok (.putfield 18, 3) := by decide +kernel
theorem dX1_note_22 : decode cX1_note 22 = .ok (.return_, 1) := by decide +kernel
theorem dX1_note_23 : decode cX1_note 23 = .ok (.aload_n 1, 1) := by decide +kernel
theorem dX1_note_24 : decode cX1_note 24 = .ok (.invokevirtual 41, 3) := by decide +kernel
theorem dX1_note_27 : decode cX1_note 27 = .ok (.istore_n 2, 1) := by decide +kernel
theorem dX1_note_28 : decode cX1_note 28 = .ok (.aload_n 0, 1) := by decide +kernel
theorem dX1_note_29 : decode cX1_note 29 = .ok (.dup, 1) := by decide +kernel
theorem dX1_note_30 : decode cX1_note 30 = .ok (.getfield 22, 3) := by decide +kernel
theorem dX1_note_33 : decode cX1_note 33 = .ok (.iconst 1, 1) := by decide +kernel
theorem dX1_note_34 : decode cX1_note 34 = .ok (.iadd, 1) := by decide +kernel
theorem dX1_note_35 : decode cX1_note 35 = .ok (.putfield 22, 3) := by decide +kernel
theorem dX1_note_38 : decode cX1_note 38 = .ok (.aload_n 0, 1) := by decide +kernel
theorem dX1_note_39 : decode cX1_note 39 = .ok (.getfield 9, 3) := by decide +kernel
theorem dX1_note_42 : decode cX1_note 42 = .ok (.aload_n 1, 1) := by decide +kernel
theorem dX1_note_43 : decode cX1_note 43 = .ok (.invokevirtual 45, 3) := by decide +kernel
theorem dX1_note_46 : decode cX1_note 46 = .ok (.aload_n 1, 1) := by decide +kernel
theorem dX1_note_47 : decode cX1_note 47 = .ok (.invokevirtual 48, 3) := by decide +kernel
theorem dX1_note_50 : decode cX1_note 50 = .ok (.iload_n 2, 1) := by decide +kernel
theorem dX1_note_51 : decode cX1_note 51 = .ok (.invokestatic 51, 3) := by decide +kernel
theorem dX1_note_54 : decode cX1_note 54 = .ok (.dup2, 1) := by decide +kernel
theorem dX1_note_55 : decode cX1_note 55 = .ok (.iaload, 1) := by decide +kernel
theorem dX1_note_56 : decode cX1_note 56 = .ok (.iconst 1, 1) := by decide +kernel
theorem dX1_note_57 : decode cX1_note 57 = .ok (.iadd, 1) := by decide +kernel
theorem dX1_note_58 : decode cX1_note 58 = .ok (.iastore, 1) := by decide +kernel
theorem dX1_note_59 : decode cX1_note 59 = .ok (.aload_n 0, 1) := by decide +kernel
theorem dX1_note_60 : decode cX1_note 60 = .ok (.getfield 15, 3) := by decide +kernel
theorem dX1_note_63 : decode cX1_note 63 = .ok (.aload_n 1, 1) := by decide +kernel
theorem dX1_note_64 : decode cX1_note 64 = .ok (.invokevirtual 45, 3) := by decide +kernel
theorem dX1_note_67 : decode cX1_note 67 = .ok (.aload_n 1, 1) := by decide +kernel
theorem dX1_note_68 : decode cX1_note 68 = .ok (.invokevirtual 48, 3) := by decide +kernel
theorem dX1_note_71 : decode cX1_note 71 = .ok (.invokestatic 25, 3) := by decide +kernel
theorem dX1_note_74 : decode cX1_note 74 = .ok (.dup2, 1) := by decide +kernel
theorem dX1_note_75 : decode cX1_note 75 = .ok (.iaload, 1) := by decide +kernel
theorem dX1_note_76 : decode cX1_note 76 = .ok (.iconst 1, 1) := by decide +kernel
theorem dX1_note_77 : decode cX1_note 77 = .ok (.iload_n 2, 1) := by decide +kernel
theorem dX1_note_78 : decode cX1_note 78 = .ok (.ishl, 1) := by decide +kernel
theorem dX1_note_79 : decode cX1_note 79 = .ok (.ior, 1) := by decide +kernel
theorem dX1_note_80 : decode cX1_note 80 = .ok (.iastore, 1) := by decide +kernel
theorem dX1_note_81 : decode cX1_note 81 = .ok (.return_, 1) := by decide +kernel
theorem dX1_received_0 : decode cX1_received 0 = .ok (.aload_n 0, 1) := by decide +kernel
theorem dX1_received_1 : decode cX1_received 1 = .ok (.getfield 18, 3) := by decide +kernel
theorem dX1_received_4 : decode cX1_received 4 = .ok (.aload_n 0, 1) := by decide +kernel
theorem dX1_received_5 : decode cX1_received 5 = .ok (.getfield 22, 3) := by decide +kernel
theorem dX1_received_8 : decode cX1_received 8 = .ok (.iadd, 1) := by decide +kernel
theorem dX1_received_9 : decode cX1_received 9 = .ok (.ireturn, 1) := by decide +kernel
theorem dX1_unmarked_0 : decode cX1_unmarked 0 = .ok (.aload_n 0, 1) := by decide +kernel
theorem dX1_unmarked_1 : decode cX1_unmarked 1 = .ok (.getfield 18, 3) := by decide +kernel
theorem dX1_unmarked_4 : decode cX1_unmarked 4 = .ok (.ireturn, 1) := by decide +kernel
set_option maxRecDepth 20000 in
theorem ggX1_countOf_X1_countPlace : GoodIn wsX1_countOf wsX1_countPlace := goodIn_r _ [5, 6, 7, 4, 8] (by decide +kernel) (by decide +kernel)
set_option maxRecDepth 20000 in
theorem gX1_countOf_X1_countPlace : GoodIn wsX1_countOf (va_wsS RX1 51 yX1_countPlace wsX1_countPlace) := goodIn_app (goodIn_of _ (by decide +kernel)) ggX1_countOf_X1_countPlace
theorem dX1_countOf_0 : decode cX1_countOf 0 = .ok (.aload_n 0, 1) := by decide +kernel
theorem dX1_countOf_1 : decode cX1_countOf 1 = .ok (.getfield 9, 3) := by decide +kernel
theorem dX1_countOf_4 : decode cX1_countOf 4 = .ok (.iload_n 1, 1) := by decide +kernel
theorem dX1_countOf_5 : decode cX1_countOf 5 = .ok (.iload_n 2, 1) := by decide +kernel
theorem dX1_countOf_6 : decode cX1_countOf 6 = .ok (.iload_n 3, 1) := by decide +kernel
theorem dX1_countOf_7 : decode cX1_countOf 7 = .ok (.invokestatic 51, 3) := by decide +kernel
theorem dX1_countOf_10 : decode cX1_countOf 10 = .ok (.iaload, 1) := by decide +kernel
theorem dX1_countOf_11 : decode cX1_countOf 11 = .ok (.ireturn, 1) := by decide +kernel
set_option maxRecDepth 20000 in
theorem ggX1_countAt_X1_countOf : GoodIn wsX1_countAt wsX1_countOf := goodIn_r _ [5, 6, 7, 8, 4, 9, 10, 11, 12, 13, 14, 15, 16] (by decide +kernel) (by decide +kernel)
set_option maxRecDepth 20000 in
theorem gX1_countAt_X1_countOf : GoodIn wsX1_countAt (wsV RX1 55 RX1 yX1_countOf wsX1_countOf) := goodIn_app (goodIn_of _ (by decide +kernel)) ggX1_countAt_X1_countOf
theorem dX1_countAt_0 : decode cX1_countAt 0 = .ok (.iconst 0, 1) := by decide +kernel
theorem dX1_countAt_1 : decode cX1_countAt 1 = .ok (.istore_n 2, 1) := by decide +kernel
theorem dX1_countAt_2 : decode cX1_countAt 2 = .ok (.iconst 0, 1) := by decide +kernel
theorem dX1_countAt_3 : decode cX1_countAt 3 = .ok (.istore_n 3, 1) := by decide +kernel
theorem dX1_countAt_4 : decode cX1_countAt 4 = .ok (.iload_n 3, 1) := by decide +kernel
theorem dX1_countAt_5 : decode cX1_countAt 5 = .ok (.iconst 4, 1) := by decide +kernel
theorem dX1_countAt_6 : decode cX1_countAt 6 = .ok (.if_icmp .ge 36, 3) := by decide +kernel
theorem dX1_countAt_9 : decode cX1_countAt 9 = .ok (.iconst 0, 1) := by decide +kernel
theorem dX1_countAt_10 : decode cX1_countAt 10 = .ok (.istore 4, 2) := by decide +kernel
theorem dX1_countAt_12 : decode cX1_countAt 12 = .ok (.iload 4, 2) := by decide +kernel
theorem dX1_countAt_14 : decode cX1_countAt 14 = .ok (.bipush 32, 2) := by decide +kernel
theorem dX1_countAt_16 : decode cX1_countAt 16 = .ok (.if_icmp .ge 20, 3) := by decide +kernel
theorem dX1_countAt_19 : decode cX1_countAt 19 = .ok (.iload_n 2, 1) := by decide +kernel
theorem dX1_countAt_20 : decode cX1_countAt 20 = .ok (.aload_n 0, 1) := by decide +kernel
theorem dX1_countAt_21 : decode cX1_countAt 21 = .ok (.iload_n 1, 1) := by decide +kernel
theorem dX1_countAt_22 : decode cX1_countAt 22 = .ok (.iload_n 3, 1) := by decide +kernel
theorem dX1_countAt_23 : decode cX1_countAt 23 = .ok (.iload 4, 2) := by decide +kernel
theorem dX1_countAt_25 : decode cX1_countAt 25 = .ok (.invokevirtual 55, 3) := by decide +kernel
theorem dX1_countAt_28 : decode cX1_countAt 28 = .ok (.iadd, 1) := by decide +kernel
theorem dX1_countAt_29 : decode cX1_countAt 29 = .ok (.istore_n 2, 1) := by decide +kernel
theorem dX1_countAt_30 : decode cX1_countAt 30 = .ok (.iinc 4 1, 3) := by decide +kernel
theorem dX1_countAt_33 : decode cX1_countAt 33 = .ok (.goto (-21), 3) := by decide +kernel
theorem dX1_countAt_36 : decode cX1_countAt 36 = .ok (.iinc 3 1, 3) := by decide +kernel
theorem dX1_countAt_39 : decode cX1_countAt 39 = .ok (.goto (-35), 3) := by decide +kernel
theorem dX1_countAt_42 : decode cX1_countAt 42 = .ok (.iload_n 2, 1) := by decide +kernel
theorem dX1_countAt_43 : decode cX1_countAt 43 = .ok (.ireturn, 1) := by decide +kernel
set_option maxRecDepth 20000 in
theorem ggX1_hasDistance_X1_setPlace : GoodIn wsX1_hasDistance wsX1_setPlace := goodIn_r _ [5] (by decide +kernel) (by decide +kernel)
set_option maxRecDepth 20000 in
theorem gX1_hasDistance_X1_setPlace : GoodIn wsX1_hasDistance (va_wsS RX1 25 yX1_setPlace wsX1_setPlace) := goodIn_app (goodIn_of _ (by decide +kernel)) ggX1_hasDistance_X1_setPlace
theorem dX1_hasDistance_0 : decode cX1_hasDistance 0 = .ok (.iconst 0, 1) := by decide +kernel
theorem dX1_hasDistance_1 : decode cX1_hasDistance 1 = .ok (.istore_n 2, 1) := by decide +kernel
theorem dX1_hasDistance_2 : decode cX1_hasDistance 2 = .ok (.iload_n 2, 1) := by decide +kernel
theorem dX1_hasDistance_3 : decode cX1_hasDistance 3 = .ok (.iconst 4, 1) := by decide +kernel
theorem dX1_hasDistance_4 : decode cX1_hasDistance 4 = .ok (.if_icmp .ge 24, 3) := by decide +kernel
theorem dX1_hasDistance_7 : decode cX1_hasDistance 7 = .ok (.aload_n 0, 1) := by decide +kernel
theorem dX1_hasDistance_8 : decode cX1_hasDistance 8 = .ok (.getfield 15, 3) := by decide +kernel
theorem dX1_hasDistance_11 : decode cX1_hasDistance 11 = .ok (.iload_n 1, 1) := by decide +kernel
theorem dX1_hasDistance_12 : decode cX1_hasDistance 12 = .ok (.iload_n 2, 1) := by decide +kernel
theorem dX1_hasDistance_13 : decode cX1_hasDistance 13 = .ok (.invokestatic 25, 3) := by decide +kernel
theorem dX1_hasDistance_16 : decode cX1_hasDistance 16 = .ok (.iaload, 1) := by decide +kernel
theorem dX1_hasDistance_17 : decode cX1_hasDistance 17 = .ok (.ifCond .eq 5, 3) := by decide +kernel
theorem dX1_hasDistance_20 : decode cX1_hasDistance 20 = .ok (.iconst 1, 1) := by decide +kernel
theorem dX1_hasDistance_21 : decode cX1_hasDistance 21 = .ok (.ireturn, 1) := by decide +kernel
theorem dX1_hasDistance_22 : decode cX1_hasDistance 22 = .ok (.iinc 2 1, 3) := by decide +kernel
theorem dX1_hasDistance_25 : decode cX1_hasDistance 25 = .ok (.goto (-23), 3) := by decide +kernel
theorem dX1_hasDistance_28 : decode cX1_hasDistance 28 = .ok (.iconst 0, 1) := by decide +kernel
theorem dX1_hasDistance_29 : decode cX1_hasDistance 29 = .ok (.ireturn, 1) := by decide +kernel
set_option maxRecDepth 20000 in
theorem ggX1_differentFragments_X1_setPlace : GoodIn wsX1_differentFragments wsX1_setPlace := goodIn_r _ [5] (by decide +kernel) (by decide +kernel)
set_option maxRecDepth 20000 in
theorem gX1_differentFragments_X1_setPlace : GoodIn wsX1_differentFragments (va_wsS RX1 25 yX1_setPlace wsX1_setPlace) := goodIn_app (goodIn_of _ (by decide +kernel)) ggX1_differentFragments_X1_setPlace
set_option maxRecDepth 20000 in
theorem ggX1_differentFragments_J6_bitCount_0f7a4 : GoodIn wsX1_differentFragments wsJ6_bitCount_0f7a4 := goodIn_r _ [9, 10, 11, 12] (by decide +kernel) (by decide +kernel)
set_option maxRecDepth 20000 in
theorem gX1_differentFragments_J6_bitCount_0f7a4 : GoodIn wsX1_differentFragments (va_wsS RX1 58 yJ6_bitCount_0f7a4 wsJ6_bitCount_0f7a4) := goodIn_app (goodIn_of _ (by decide +kernel)) ggX1_differentFragments_J6_bitCount_0f7a4
theorem dX1_differentFragments_0 : decode cX1_differentFragments 0 = .ok (.aload_n 0, 1) := by decide +kernel
theorem dX1_differentFragments_1 : decode cX1_differentFragments 1 = .ok (.getfield 15, 3) := by decide +kernel
theorem dX1_differentFragments_4 : decode cX1_differentFragments 4 = .ok (.iload_n 1, 1) := by decide +kernel
theorem dX1_differentFragments_5 : decode cX1_differentFragments 5 = .ok (.iload_n 2, 1) := by decide +kernel
theorem dX1_differentFragments_6 : decode cX1_differentFragments 6 = .ok (.invokestatic 25, 3) := by decide +kernel
theorem dX1_differentFragments_9 : decode cX1_differentFragments 9 = .ok (.iaload, 1) := by decide +kernel
theorem dX1_differentFragments_10 : decode cX1_differentFragments 10 = .ok (.invokestatic 58, 3) := by decide +kernel
theorem dX1_differentFragments_13 : decode cX1_differentFragments 13 = .ok (.ireturn, 1) := by decide +kernel
set_option maxRecDepth 20000 in
theorem ggX1_combinations_X1_differentFragments : GoodIn wsX1_combinations wsX1_differentFragments := goodIn_r _ [5, 6, 7, 8, 4, 9, 10, 11, 12, 13, 14, 15, 16, 17, 18, 19, 20] (by decide +kernel) (by decide +kernel)
set_option maxRecDepth 20000 in
theorem gX1_combinations_X1_differentFragments : GoodIn wsX1_combinations (wsV RX1 64 RX1 yX1_differentFragments wsX1_differentFragments) := goodIn_app (goodIn_of _ (by decide +kernel)) ggX1_combinations_X1_differentFragments
theorem dX1_combinations_0 : decode cX1_combinations 0 = .ok (.iconst 1, 1) := by decide +kernel
theorem dX1_combinations_1 : decode cX1_combinations 1 = .ok (.istore_n 2, 1) := by decide +kernel
theorem dX1_combinations_2 : decode cX1_combinations 2 = .ok (.iconst 0, 1) := by decide +kernel
theorem dX1_combinations_3 : decode cX1_combinations 3 = .ok (.istore_n 3, 1) := by decide +kernel
theorem dX1_combinations_4 : decode cX1_combinations 4 = .ok (.iload_n 3, 1) := by decide +kernel
theorem dX1_combinations_5 : decode cX1_combinations 5 = .ok (.iconst 4, 1) := by decide +kernel
theorem dX1_combinations_6 : decode cX1_combinations 6 = .ok (.if_icmp .ge 18, 3) := by decide +kernel
theorem dX1_combinations_9 : decode cX1_combinations 9 = .ok (.iload_n 2, 1) := by decide +kernel
theorem dX1_combinations_10 : decode cX1_combinations 10 = .ok (.aload_n 0, 1) := by decide +kernel
theorem dX1_combinations_11 : decode cX1_combinations 11 = .ok (.iload_n 1, 1) := by decide +kernel
theorem dX1_combinations_12 : decode cX1_combinations 12 = .ok (.iload_n 3, 1) := by decide +kernel
theorem dX1_combinations_13 : decode cX1_combinations 13 = .ok (.invokevirtual 64, 3) := by decide +kernel
theorem dX1_combinations_16 : decode cX1_combinations 16 = .ok (.imul, 1) := by decide +kernel
theorem dX1_combinations_17 : decode cX1_combinations 17 = .ok (.istore_n 2, 1) := by decide +kernel
theorem dX1_combinations_18 : decode cX1_combinations 18 = .ok (.iinc 3 1, 3) := by decide +kernel
theorem dX1_combinations_21 : decode cX1_combinations 21 = .ok (.goto (-17), 3) := by decide +kernel
theorem dX1_combinations_24 : decode cX1_combinations 24 = .ok (.iload_n 2, 1) := by decide +kernel
theorem dX1_combinations_25 : decode cX1_combinations 25 = .ok (.ireturn, 1) := by decide +kernel
set_option maxRecDepth 20000 in
theorem ggX1_holdsPart_X1_setPlace : GoodIn wsX1_holdsPart wsX1_setPlace := goodIn_r _ [5] (by decide +kernel) (by decide +kernel)
set_option maxRecDepth 20000 in
theorem gX1_holdsPart_X1_setPlace : GoodIn wsX1_holdsPart (va_wsS RX1 25 yX1_setPlace wsX1_setPlace) := goodIn_app (goodIn_of _ (by decide +kernel)) ggX1_holdsPart_X1_setPlace
set_option maxRecDepth 20000 in
theorem ggX1_holdsPart_X5_fragmentOf : GoodIn wsX1_holdsPart wsX5_fragmentOf := goodIn_r _ [8] (by decide +kernel) (by decide +kernel)
set_option maxRecDepth 20000 in
theorem gX1_holdsPart_X5_fragmentOf_n67 : GoodIn wsX1_holdsPart (wsX5_fragmentOf) := ggX1_holdsPart_X5_fragmentOf
theorem dX1_holdsPart_0 : decode cX1_holdsPart 0 = .ok (.aload_n 0, 1) := by decide +kernel
theorem dX1_holdsPart_1 : decode cX1_holdsPart 1 = .ok (.getfield 15, 3) := by decide +kernel
theorem dX1_holdsPart_4 : decode cX1_holdsPart 4 = .ok (.iload_n 1, 1) := by decide +kernel
theorem dX1_holdsPart_5 : decode cX1_holdsPart 5 = .ok (.iload_n 2, 1) := by decide +kernel
theorem dX1_holdsPart_6 : decode cX1_holdsPart 6 = .ok (.invokestatic 25, 3) := by decide +kernel
theorem dX1_holdsPart_9 : decode cX1_holdsPart 9 = .ok (.iaload, 1) := by decide +kernel
theorem dX1_holdsPart_10 : decode cX1_holdsPart 10 = .ok (.istore 4, 2) := by decide +kernel
theorem dX1_holdsPart_12 : decode cX1_holdsPart 12 = .ok (.iload 4, 2) := by decide +kernel
theorem dX1_holdsPart_14 : decode cX1_holdsPart 14 = .ok (.iload_n 3, 1) := by decide +kernel
theorem dX1_holdsPart_15 : decode cX1_holdsPart 15 = .ok (.iload_n 2, 1) := by decide +kernel
theorem dX1_holdsPart_16 : decode cX1_holdsPart 16 = .ok (.invokestatic 67, 3) := by decide +kernel
theorem dX1_holdsPart_19 : decode cX1_holdsPart 19 = .ok (.iushr, 1) := by decide +kernel
theorem dX1_holdsPart_20 : decode cX1_holdsPart 20 = .ok (.iconst 1, 1) := by decide +kernel
theorem dX1_holdsPart_21 : decode cX1_holdsPart 21 = .ok (.iand, 1) := by decide +kernel
theorem dX1_holdsPart_22 : decode cX1_holdsPart 22 = .ok (.ifCond .eq 7, 3) := by decide +kernel
theorem dX1_holdsPart_25 : decode cX1_holdsPart 25 = .ok (.iconst 1, 1) := by decide +kernel
theorem dX1_holdsPart_26 : decode cX1_holdsPart 26 = .ok (.goto 4, 3) := by decide +kernel
theorem dX1_holdsPart_29 : decode cX1_holdsPart 29 = .ok (.iconst 0, 1) := by decide +kernel
theorem dX1_holdsPart_30 : decode cX1_holdsPart 30 = .ok (.ireturn, 1) := by decide +kernel
set_option maxRecDepth 20000 in
theorem ggX1_holdsWord_X1_holdsPart : GoodIn wsX1_holdsWord wsX1_holdsPart := goodIn_r _ [5, 6, 7, 8, 4, 9, 10, 11, 12, 13, 14, 15, 16] (by decide +kernel) (by decide +kernel)
set_option maxRecDepth 20000 in
theorem gX1_holdsWord_X1_holdsPart : GoodIn wsX1_holdsWord (wsV RX1 70 RX1 yX1_holdsPart wsX1_holdsPart) := goodIn_app (goodIn_of _ (by decide +kernel)) ggX1_holdsWord_X1_holdsPart
theorem dX1_holdsWord_0 : decode cX1_holdsWord 0 = .ok (.iconst 0, 1) := by decide +kernel
theorem dX1_holdsWord_1 : decode cX1_holdsWord 1 = .ok (.istore_n 3, 1) := by decide +kernel
theorem dX1_holdsWord_2 : decode cX1_holdsWord 2 = .ok (.iload_n 3, 1) := by decide +kernel
theorem dX1_holdsWord_3 : decode cX1_holdsWord 3 = .ok (.iconst 4, 1) := by decide +kernel
theorem dX1_holdsWord_4 : decode cX1_holdsWord 4 = .ok (.if_icmp .ge 21, 3) := by decide +kernel
theorem dX1_holdsWord_7 : decode cX1_holdsWord 7 = .ok (.aload_n 0, 1) := by decide +kernel
theorem dX1_holdsWord_8 : decode cX1_holdsWord 8 = .ok (.iload_n 1, 1) := by decide +kernel
theorem dX1_holdsWord_9 : decode cX1_holdsWord 9 = .ok (.iload_n 3, 1) := by decide +kernel
theorem dX1_holdsWord_10 : decode cX1_holdsWord 10 = .ok (.iload_n 2, 1) := by decide +kernel
theorem dX1_holdsWord_11 : decode cX1_holdsWord 11 = .ok (.invokevirtual 70, 3) := by decide +kernel
theorem dX1_holdsWord_14 : decode cX1_holdsWord 14 = .ok (.ifCond .ne 5, 3) := by decide +kernel
theorem dX1_holdsWord_17 : decode cX1_holdsWord 17 = .ok (.iconst 0, 1) := by decide +kernel
theorem dX1_holdsWord_18 : decode cX1_holdsWord 18 = .ok (.ireturn, 1) := by decide +kernel
theorem dX1_holdsWord_19 : decode cX1_holdsWord 19 = .ok (.iinc 3 1, 3) := by decide +kernel
theorem dX1_holdsWord_22 : decode cX1_holdsWord 22 = .ok (.goto (-20), 3) := by decide +kernel
theorem dX1_holdsWord_25 : decode cX1_holdsWord 25 = .ok (.iconst 1, 1) := by decide +kernel
theorem dX1_holdsWord_26 : decode cX1_holdsWord 26 = .ok (.ireturn, 1) := by decide +kernel
theorem dX2_init_0 : decode cX2_init 0 = .ok (.aload_n 0, 1) := by decide +kernel
theorem dX2_init_1 : decode cX2_init 1 = .ok (.invokespecial 3, 3) := by decide +kernel
theorem dX2_init_4 : decode cX2_init 4 = .ok (.aload_n 0, 1) := by decide +kernel
theorem dX2_init_5 : decode cX2_init 5 = .ok (.bipush 20, 2) := by decide +kernel
theorem dX2_init_7 : decode cX2_init 7 = .ok (.newarray .int, 2) := by decide +kernel
theorem dX2_init_9 : decode cX2_init 9 = .ok (.putfield 9, 3) := by decide +kernel
theorem dX2_init_12 : decode cX2_init 12 = .ok (.aload_n 0, 1) := by decide +kernel
theorem dX2_init_13 : decode cX2_init 13 = .ok (.bipush 20, 2) := by decide +kernel
theorem dX2_init_15 : decode cX2_init 15 = .ok (.newarray .int, 2) := by decide +kernel
theorem dX2_init_17 : decode cX2_init 17 = .ok (.putfield 15, 3) := by decide +kernel
theorem dX2_init_20 : decode cX2_init 20 = .ok (.aload_n 0, 1) := by decide +kernel
theorem dX2_init_21 : decode cX2_init 21 = .ok (.bipush 20, 2) := by decide +kernel
theorem dX2_init_23 : decode cX2_init 23 = .ok (.newarray .int, 2) := by decide +kernel
theorem dX2_init_25 : decode cX2_init 25 = .ok (.putfield 18, 3) := by decide +kernel
theorem dX2_init_28 : decode cX2_init 28 = .ok (.aload_n 0, 1) := by decide +kernel
theorem dX2_init_29 : decode cX2_init 29 = .ok (.iconst 0, 1) := by decide +kernel
theorem dX2_init_30 : decode cX2_init 30 = .ok (.putfield 21, 3) := by decide +kernel
theorem dX2_init_33 : decode cX2_init 33 = .ok (.return_, 1) := by decide +kernel
theorem dX2_size_0 : decode cX2_size 0 = .ok (.aload_n 0, 1) := by decide +kernel
theorem dX2_size_1 : decode cX2_size 1 = .ok (.getfield 21, 3) := by decide +kernel
theorem dX2_size_4 : decode cX2_size 4 = .ok (.ireturn, 1) := by decide +kernel
theorem dX2_isEmpty_0 : decode cX2_isEmpty 0 = .ok (.aload_n 0, 1) := by decide +kernel
theorem dX2_isEmpty_1 : decode cX2_isEmpty 1 = .ok (.getfield 21, 3) := by decide +kernel
theorem dX2_isEmpty_4 : decode cX2_isEmpty 4 = .ok (.ifCond .ne 7, 3) := by decide +kernel
theorem dX2_isEmpty_7 : decode cX2_isEmpty 7 = .ok (.iconst 1, 1) := by decide +kernel
theorem dX2_isEmpty_8 : decode cX2_isEmpty 8 = .ok (.goto 4, 3) := by decide +kernel
theorem dX2_isEmpty_11 : decode cX2_isEmpty 11 = .ok (.iconst 0, 1) := by decide +kernel
theorem dX2_isEmpty_12 : decode cX2_isEmpty 12 = .ok (.ireturn, 1) := by decide +kernel
set_option maxRecDepth 20000 in
theorem ggX2_has_X5_isBelow : GoodIn wsX2_has wsX5_isBelow := goodIn_r _ [4] (by decide +kernel) (by decide +kernel)
set_option maxRecDepth 20000 in
theorem gX2_has_X5_isBelow_n25 : GoodIn wsX2_has (wsX5_isBelow) := ggX2_has_X5_isBelow
theorem dX2_has_0 : decode cX2_has 0 = .ok (.iload_n 1, 1) := by decide +kernel
theorem dX2_has_1 : decode cX2_has 1 = .ok (.aload_n 0, 1) := by decide +kernel
theorem dX2_has_2 : decode cX2_has 2 = .ok (.getfield 21, 3) := by decide +kernel
theorem dX2_has_5 : decode cX2_has 5 = .ok (.invokestatic 25, 3) := by decide +kernel
theorem dX2_has_8 : decode cX2_has 8 = .ok (.ifCond .eq 16, 3) := by decide +kernel
theorem dX2_has_11 : decode cX2_has 11 = .ok (.iload_n 1, 1) := by decide +kernel
theorem dX2_has_12 : decode cX2_has 12 = .ok (.bipush 20, 2) := by decide +kernel
theorem dX2_has_14 : decode cX2_has 14 = .ok (.invokestatic 25, 3) := by decide +kernel
theorem dX2_has_17 : decode cX2_has 17 = .ok (.ifCond .eq 7, 3) := by decide +kernel
theorem dX2_has_20 : decode cX2_has 20 = .ok (.iconst 1, 1) := by decide +kernel
theorem dX2_has_21 : decode cX2_has 21 = .ok (.goto 4, 3) := by decide +kernel
theorem dX2_has_24 : decode cX2_has 24 = .ok (.iconst 0, 1) := by decide +kernel
theorem dX2_has_25 : decode cX2_has 25 = .ok (.ireturn, 1) := by decide +kernel
set_option maxRecDepth 20000 in
theorem ggX2_append_X5_isBelow : GoodIn wsX2_append wsX5_isBelow := goodIn_r _ [7] (by decide +kernel) (by decide +kernel)
set_option maxRecDepth 20000 in
theorem gX2_append_X5_isBelow_n25 : GoodIn wsX2_append (wsX5_isBelow) := ggX2_append_X5_isBelow
set_option maxRecDepth 20000 in
theorem ggX2_append_X2_depthOf : GoodIn wsX2_append wsX2_depthOf := goodIn_r _ [12, 3, 13, 14, 15, 11, 16, 1, 5, 6, 7, 17, 18, 19, 20] (by decide +kernel) (by decide +kernel)
set_option maxRecDepth 20000 in
theorem gX2_append_X2_depthOf : GoodIn wsX2_append (wsV RX2 29 RX2 yX2_depthOf wsX2_depthOf) := goodIn_app (goodIn_of _ (by decide +kernel)) ggX2_append_X2_depthOf
theorem dX2_append_0 : decode cX2_append 0 = .ok (.aload_n 0, 1) := by decide +kernel
theorem dX2_append_1 : decode cX2_append 1 = .ok (.getfield 21, 3) := by decide +kernel
theorem dX2_append_4 : decode cX2_append 4 = .ok (.bipush 20, 2) := by decide +kernel
theorem dX2_append_6 : decode cX2_append 6 = .ok (.invokestatic 25, 3) := by decide +kernel
theorem dX2_append_9 : decode cX2_append 9 = .ok (.ifCond .ne 6, 3) := by decide +kernel
theorem dX2_append_12 : decode cX2_append 12 = .ok (.bipush (-4), 2) := by decide +kernel
theorem dX2_append_14 : decode cX2_append 14 = .ok (.ireturn, 1) := by decide +kernel
theorem dX2_append_15 : decode cX2_append 15 = .ok (.aload_n 0, 1) := by decide +kernel
theorem dX2_append_16 : decode cX2_append 16 = .ok (.getfield 21, 3) := by decide +kernel
theorem dX2_append_19 : decode cX2_append 19 = .ok (.istore_n 3, 1) := by decide +kernel
theorem dX2_append_20 : decode cX2_append 20 = .ok (.iload_n 3, 1) := by decide +kernel
theorem dX2_append_21 : decode cX2_append 21 = .ok (.ifCond .ne 7, 3) := by decide +kernel
theorem dX2_append_24 : decode cX2_append 24 = .ok (.iconst 1, 1) := by decide +kernel
theorem dX2_append_25 : decode cX2_append 25 = .ok (.goto 4, 3) := by decide +kernel
theorem dX2_append_28 : decode cX2_append 28 = .ok (.iconst 0, 1) := by decide +kernel
theorem dX2_append_29 : decode cX2_append 29 = .ok (.istore 4, 2) := by decide +kernel
theorem dX2_append_31 : decode cX2_append 31 = .ok (.aload_n 0, 1) := by decide +kernel
theorem dX2_append_32 : decode cX2_append 32 = .ok (.getfield 9, 3) := by decide +kernel
theorem dX2_append_35 : decode cX2_append 35 = .ok (.iload_n 3, 1) := by decide +kernel
theorem dX2_append_36 : decode cX2_append 36 = .ok (.iload 4, 2) := by decide +kernel
theorem dX2_append_38 : decode cX2_append 38 = .ok (.ifCond .eq 7, 3) := by decide +kernel
theorem dX2_append_41 : decode cX2_append 41 = .ok (.iconst (-1), 1) := by decide +kernel
theorem dX2_append_42 : decode cX2_append 42 = .ok (.goto 4, 3) := by decide +kernel
theorem dX2_append_45 : decode cX2_append 45 = .ok (.iload_n 1, 1) := by decide +kernel
theorem dX2_append_46 : decode cX2_append 46 = .ok (.iastore, 1) := by decide +kernel
theorem dX2_append_47 : decode cX2_append 47 = .ok (.aload_n 0, 1) := by decide +kernel
theorem dX2_append_48 : decode cX2_append 48 = .ok (.getfield 18, 3) := by decide +kernel
theorem dX2_append_51 : decode cX2_append 51 = .ok (.iload_n 3, 1) := by decide +kernel
theorem dX2_append_52 : decode cX2_append 52 = .ok (.iload 4, 2) := by decide +kernel
theorem dX2_append_54 : decode cX2_append 54 = .ok (.ifCond .eq 7, 3) := by decide +kernel
theorem dX2_append_57 : decode cX2_append 57 = .ok (.iconst 0, 1) := by decide +kernel
theorem dX2_append_58 : decode cX2_append 58 = .ok (.goto 10, 3) := by decide +kernel
theorem dX2_append_61 : decode cX2_append 61 = .ok (.aload_n 0, 1) := by decide +kernel
theorem dX2_append_62 : decode cX2_append 62 = .ok (.iload_n 1, 1) := by decide +kernel
theorem dX2_append_63 : decode cX2_append 63 = .ok (.invokevirtual 29, 3) := by decide +kernel
theorem dX2_append_66 : decode cX2_append 66 = .ok (.iconst 1, 1) := by decide +kernel
theorem dX2_append_67 : decode cX2_append 67 = .ok (.iadd, 1) := by decide +kernel
theorem dX2_append_68 : decode cX2_append 68 = .ok (.iastore, 1) := by decide +kernel
theorem dX2_append_69 : decode cX2_append 69 = .ok (.aload_n 0, 1) := by decide +kernel
theorem dX2_append_70 : decode cX2_append 70 = .ok (.getfield 15, 3) := by decide +kernel
theorem dX2_append_73 : decode cX2_append 73 = .ok (.iload_n 3, 1) := by decide +kernel
theorem dX2_append_74 : decode cX2_append 74 = .ok (.iload_n 2, 1) := by decide +kernel
theorem dX2_append_75 : decode cX2_append 75 = .ok (.iastore, 1) := by decide +kernel
theorem dX2_append_76 : decode cX2_append 76 = .ok (.aload_n 0, 1) := by decide +kernel
theorem dX2_append_77 : decode cX2_append 77 = .ok (.dup, 1) := by decide +kernel
theorem dX2_append_78 : decode cX2_append 78 = .ok (.getfield 21, 3) := by decide +kernel
theorem dX2_append_81 : decode cX2_append 81 = .ok (.iconst 1, 1) := by decide +kernel
theorem dX2_append_82 : decode cX2_append 82 = .ok (.iadd, 1) := by decide +kernel
theorem dX2_append_83 : decode cX2_append 83 = .ok (.putfield 21, 3) := by decide +kernel
theorem dX2_append_86 : decode cX2_append 86 = .ok (.iload_n 3, 1) := by decide +kernel
theorem dX2_append_87 : decode cX2_append 87 = .ok (.ireturn, 1) := by decide +kernel
theorem dX2_find_0 : decode cX2_find 0 = .ok (.iconst 0, 1) := by decide +kernel
theorem dX2_find_1 : decode cX2_find 1 = .ok (.istore_n 2, 1) := by decide +kernel
theorem dX2_find_2 : decode cX2_find 2 = .ok (.iload_n 2, 1) := by decide +kernel
theorem dX2_find_3 : decode cX2_find 3 = .ok (.aload_n 0, 1) := by decide +kernel
theorem dX2_find_4 : decode cX2_find 4 = .ok (.getfield 21, 3) := by decide +kernel
theorem dX2_find_7 : decode cX2_find 7 = .ok (.if_icmp .ge 27, 3) := by decide +kernel
theorem dX2_find_10 : decode cX2_find 10 = .ok (.iload_n 2, 1) := by decide +kernel
theorem dX2_find_11 : decode cX2_find 11 = .ok (.bipush 20, 2) := by decide +kernel
theorem dX2_find_13 : decode cX2_find 13 = .ok (.if_icmp .ge 21, 3) := by decide +kernel
theorem dX2_find_16 : decode cX2_find 16 = .ok (.aload_n 0, 1) := by decide +kernel
theorem dX2_find_17 : decode cX2_find 17 = .ok (.getfield 15, 3) := by decide +kernel
theorem dX2_find_20 : decode cX2_find 20 = .ok (.iload_n 2, 1) := by decide +kernel
theorem dX2_find_21 : decode cX2_find 21 = .ok (.iaload, 1) := by decide +kernel
theorem dX2_find_22 : decode cX2_find 22 = .ok (.iload_n 1, 1) := by decide +kernel
theorem dX2_find_23 : decode cX2_find 23 = .ok (.if_icmp .ne 5, 3) := by decide +kernel
theorem dX2_find_26 : decode cX2_find 26 = .ok (.iload_n 2, 1) := by decide +kernel
theorem dX2_find_27 : decode cX2_find 27 = .ok (.ireturn, 1) := by decide +kernel
theorem dX2_find_28 : decode cX2_find 28 = .ok (.iinc 2 1, 3) := by decide +kernel
theorem dX2_find_31 : decode cX2_find 31 = .ok (.goto (-29), 3) := by decide +kernel
theorem dX2_find_34 : decode cX2_find 34 = .ok (.iconst (-1), 1) := by decide +kernel
theorem dX2_find_35 : decode cX2_find 35 = .ok (.ireturn, 1) := by decide +kernel
set_option maxRecDepth 20000 in
theorem ggX2_parentOf_X2_has : GoodIn wsX2_parentOf wsX2_has := goodIn_r _ [6, 7, 8, 9, 10, 11, 12, 13, 14] (by decide +kernel) (by decide +kernel)
set_option maxRecDepth 20000 in
theorem gX2_parentOf_X2_has : GoodIn wsX2_parentOf (wsV RX2 33 RX2 yX2_has wsX2_has) := goodIn_app (goodIn_of _ (by decide +kernel)) ggX2_parentOf_X2_has
theorem dX2_parentOf_0 : decode cX2_parentOf 0 = .ok (.aload_n 0, 1) := by decide +kernel
theorem dX2_parentOf_1 : decode cX2_parentOf 1 = .ok (.iload_n 1, 1) := by decide +kernel
theorem dX2_parentOf_2 : decode cX2_parentOf 2 = .ok (.invokevirtual 33, 3) := by decide +kernel
theorem dX2_parentOf_5 : decode cX2_parentOf 5 = .ok (.ifCond .eq 12, 3) := by decide +kernel
theorem dX2_parentOf_8 : decode cX2_parentOf 8 = .ok (.aload_n 0, 1) := by decide +kernel
theorem dX2_parentOf_9 : decode cX2_parentOf 9 = .ok (.getfield 9, 3) := by decide +kernel
theorem dX2_parentOf_12 : decode cX2_parentOf 12 = .ok (.iload_n 1, 1) := by decide +kernel
theorem dX2_parentOf_13 : decode cX2_parentOf 13 = .ok (.iaload, 1) := by decide +kernel
theorem dX2_parentOf_14 : decode cX2_parentOf 14 = .ok (.goto 4, 3) := by decide +kernel
theorem dX2_parentOf_17 : decode cX2_parentOf 17 = .ok (.iconst (-1), 1) := by decide +kernel
theorem dX2_parentOf_18 : decode cX2_parentOf 18 = .ok (.ireturn, 1) := by decide +kernel
set_option maxRecDepth 20000 in
theorem ggX2_addressOf_X2_has : GoodIn wsX2_addressOf wsX2_has := goodIn_r _ [6, 7, 8, 9, 10, 11, 12, 13, 14] (by decide +kernel) (by decide +kernel)
set_option maxRecDepth 20000 in
theorem gX2_addressOf_X2_has : GoodIn wsX2_addressOf (wsV RX2 33 RX2 yX2_has wsX2_has) := goodIn_app (goodIn_of _ (by decide +kernel)) ggX2_addressOf_X2_has
theorem dX2_addressOf_0 : decode cX2_addressOf 0 = .ok (.aload_n 0, 1) := by decide +kernel
theorem dX2_addressOf_1 : decode cX2_addressOf 1 = .ok (.iload_n 1, 1) := by decide +kernel
theorem dX2_addressOf_2 : decode cX2_addressOf 2 = .ok (.invokevirtual 33, 3) := by decide +kernel
theorem dX2_addressOf_5 : decode cX2_addressOf 5 = .ok (.ifCond .eq 12, 3) := by decide +kernel
theorem dX2_addressOf_8 : decode cX2_addressOf 8 = .ok (.aload_n 0, 1) := by decide +kernel
theorem dX2_addressOf_9 : decode cX2_addressOf 9 = .ok (.getfield 15, 3) := by decide +kernel
theorem dX2_addressOf_12 : decode cX2_addressOf 12 = .ok (.iload_n 1, 1) := by decide +kernel
theorem dX2_addressOf_13 : decode cX2_addressOf 13 = .ok (.iaload, 1) := by decide +kernel
theorem dX2_addressOf_14 : decode cX2_addressOf 14 = .ok (.goto 4, 3) := by decide +kernel
theorem dX2_addressOf_17 : decode cX2_addressOf 17 = .ok (.iconst 0, 1) := by decide +kernel
theorem dX2_addressOf_18 : decode cX2_addressOf 18 = .ok (.ireturn, 1) := by decide +kernel
set_option maxRecDepth 20000 in
theorem ggX2_depthOf_X2_has : GoodIn wsX2_depthOf wsX2_has := goodIn_r _ [6, 7, 8, 9, 10, 11, 12, 13, 14] (by decide +kernel) (by decide +kernel)
set_option maxRecDepth 20000 in
theorem gX2_depthOf_X2_has : GoodIn wsX2_depthOf (wsV RX2 33 RX2 yX2_has wsX2_has) := goodIn_app (goodIn_of _ (by decide +kernel)) ggX2_depthOf_X2_has
theorem dX2_depthOf_0 : decode cX2_depthOf 0 = .ok (.aload_n 0, 1) := by decide +kernel
theorem dX2_depthOf_1 : decode cX2_depthOf 1 = .ok (.iload_n 1, 1) := by decide +kernel
theorem dX2_depthOf_2 : decode cX2_depthOf 2 = .ok (.invokevirtual 33, 3) := by decide +kernel
theorem dX2_depthOf_5 : decode cX2_depthOf 5 = .ok (.ifCond .eq 12, 3) := by decide +kernel
theorem dX2_depthOf_8 : decode cX2_depthOf 8 = .ok (.aload_n 0, 1) := by decide +kernel
theorem dX2_depthOf_9 : decode cX2_depthOf 9 = .ok (.getfield 18, 3) := by decide +kernel
theorem dX2_depthOf_12 : decode cX2_depthOf 12 = .ok (.iload_n 1, 1) := by decide +kernel
theorem dX2_depthOf_13 : decode cX2_depthOf 13 = .ok (.iaload, 1) := by decide +kernel
theorem dX2_depthOf_14 : decode cX2_depthOf 14 = .ok (.goto 4, 3) := by decide +kernel
theorem dX2_depthOf_17 : decode cX2_depthOf 17 = .ok (.iconst 0, 1) := by decide +kernel
theorem dX2_depthOf_18 : decode cX2_depthOf 18 = .ok (.ireturn, 1) := by decide +kernel
set_option maxRecDepth 20000 in
theorem ggX2_wordAt_X2_addressOf : GoodIn wsX2_wordAt wsX2_addressOf := goodIn_r _ [5, 6, 7, 8, 9, 4, 10, 11, 12, 13, 14, 20, 21, 22, 23] (by decide +kernel) (by decide +kernel)
set_option maxRecDepth 20000 in
theorem gX2_wordAt_X2_addressOf : GoodIn wsX2_wordAt (wsV RX2 37 RX2 yX2_addressOf wsX2_addressOf) := goodIn_app (goodIn_of _ (by decide +kernel)) ggX2_wordAt_X2_addressOf
set_option maxRecDepth 20000 in
theorem ggX2_wordAt_X5_wordOf : GoodIn wsX2_wordAt wsX5_wordOf := goodIn_r _ [16, 17, 18, 13, 19] (by decide +kernel) (by decide +kernel)
set_option maxRecDepth 20000 in
theorem gX2_wordAt_X5_wordOf_n40 : GoodIn wsX2_wordAt (wsX5_wordOf) := ggX2_wordAt_X5_wordOf
theorem dX2_wordAt_0 : decode cX2_wordAt 0 = .ok (.aload_n 0, 1) := by decide +kernel
theorem dX2_wordAt_1 : decode cX2_wordAt 1 = .ok (.iload_n 1, 1) := by decide +kernel
theorem dX2_wordAt_2 : decode cX2_wordAt 2 = .ok (.invokevirtual 37, 3) := by decide +kernel
theorem dX2_wordAt_5 : decode cX2_wordAt 5 = .ok (.invokestatic 40, 3) := by decide +kernel
theorem dX2_wordAt_8 : decode cX2_wordAt 8 = .ok (.ireturn, 1) := by decide +kernel
set_option maxRecDepth 20000 in
theorem ggX2_trueMarksOf_X2_parentOf : GoodIn wsX2_trueMarksOf wsX2_parentOf := goodIn_r _ [5, 6, 7, 8, 9, 4, 10, 11, 12, 13, 14, 29, 30, 31, 32] (by decide +kernel) (by decide +kernel)
set_option maxRecDepth 20000 in
theorem gX2_trueMarksOf_X2_parentOf : GoodIn wsX2_trueMarksOf (wsV RX2 43 RX2 yX2_parentOf wsX2_parentOf) := goodIn_app (goodIn_of _ (by decide +kernel)) ggX2_trueMarksOf_X2_parentOf
set_option maxRecDepth 20000 in
theorem ggX2_trueMarksOf_X2_has : GoodIn wsX2_trueMarksOf wsX2_has := goodIn_r _ [10, 11, 12, 13, 14, 29, 30, 31, 32] (by decide +kernel) (by decide +kernel)
set_option maxRecDepth 20000 in
theorem gX2_trueMarksOf_X2_has : GoodIn wsX2_trueMarksOf (wsV RX2 33 RX2 yX2_has wsX2_has) := goodIn_app (goodIn_of _ (by decide +kernel)) ggX2_trueMarksOf_X2_has
set_option maxRecDepth 20000 in
theorem ggX2_trueMarksOf_X2_wordAt : GoodIn wsX2_trueMarksOf wsX2_wordAt := goodIn_r _ [18, 19, 20, 21, 4, 22, 23, 7, 8, 9, 10, 11, 12, 13, 14, 24, 25, 26, 27, 28, 29, 30, 31, 32] (by decide +kernel) (by decide +kernel)
set_option maxRecDepth 20000 in
theorem gX2_trueMarksOf_X2_wordAt : GoodIn wsX2_trueMarksOf (wsV RX2 46 RX2 yX2_wordAt wsX2_wordAt) := goodIn_app (goodIn_of _ (by decide +kernel)) ggX2_trueMarksOf_X2_wordAt
theorem dX2_trueMarksOf_0 : decode cX2_trueMarksOf 0 = .ok (.aload_n 0, 1) := by decide +kernel
theorem dX2_trueMarksOf_1 : decode cX2_trueMarksOf 1 = .ok (.iload_n 1, 1) := by decide +kernel
theorem dX2_trueMarksOf_2 : decode cX2_trueMarksOf 2 = .ok (.invokevirtual 43, 3) := by decide +kernel
theorem dX2_trueMarksOf_5 : decode cX2_trueMarksOf 5 = .ok (.istore_n 2, 1) := by decide +kernel
theorem dX2_trueMarksOf_6 : decode cX2_trueMarksOf 6 = .ok (.aload_n 0, 1) := by decide +kernel
theorem dX2_trueMarksOf_7 : decode cX2_trueMarksOf 7 = .ok (.iload_n 2, 1) := by decide +kernel
theorem dX2_trueMarksOf_8 : decode cX2_trueMarksOf 8 = .ok (.invokevirtual 33, 3) := by decide +kernel
theorem dX2_trueMarksOf_11 : decode cX2_trueMarksOf 11 = .ok (.ifCond .eq 17, 3) := by decide +kernel
theorem dX2_trueMarksOf_14 : decode cX2_trueMarksOf 14 = .ok (.aload_n 0, 1) := by decide +kernel
theorem dX2_trueMarksOf_15 : decode cX2_trueMarksOf 15 = .ok (.iload_n 1, 1) := by decide +kernel
theorem dX2_trueMarksOf_16 : decode cX2_trueMarksOf 16 = .ok (.invokevirtual 46, 3) := by decide +kernel
theorem dX2_trueMarksOf_19 : decode cX2_trueMarksOf 19 = .ok (.aload_n 0, 1) := by decide +kernel
theorem dX2_trueMarksOf_20 : decode cX2_trueMarksOf 20 = .ok (.iload_n 2, 1) := by decide +kernel
theorem dX2_trueMarksOf_21 : decode cX2_trueMarksOf 21 = .ok (.invokevirtual 46, 3) := by decide +kernel
theorem dX2_trueMarksOf_24 : decode cX2_trueMarksOf 24 = .ok (.ixor, 1) := by decide +kernel
theorem dX2_trueMarksOf_25 : decode cX2_trueMarksOf 25 = .ok (.goto 8, 3) := by decide +kernel
theorem dX2_trueMarksOf_28 : decode cX2_trueMarksOf 28 = .ok (.aload_n 0, 1) := by decide +kernel
theorem dX2_trueMarksOf_29 : decode cX2_trueMarksOf 29 = .ok (.iload_n 1, 1) := by decide +kernel
theorem dX2_trueMarksOf_30 : decode cX2_trueMarksOf 30 = .ok (.invokevirtual 46, 3) := by decide +kernel
theorem dX2_trueMarksOf_33 : decode cX2_trueMarksOf 33 = .ok (.ireturn, 1) := by decide +kernel
theorem dX3_init_0 : decode cX3_init 0 = .ok (.aload_n 0, 1) := by decide +kernel
theorem dX3_init_1 : decode cX3_init 1 = .ok (.invokespecial 3, 3) := by decide +kernel
theorem dX3_init_4 : decode cX3_init 4 = .ok (.aload_n 0, 1) := by decide +kernel
theorem dX3_init_5 : decode cX3_init 5 = .ok (.bipush 100, 2) := by decide +kernel
theorem dX3_init_7 : decode cX3_init 7 = .ok (.newarray .int, 2) := by decide +kernel
theorem dX3_init_9 : decode cX3_init 9 = .ok (.putfield 9, 3) := by decide +kernel
theorem dX3_init_12 : decode cX3_init 12 = .ok (.aload_n 0, 1) := by decide +kernel
theorem dX3_init_13 : decode cX3_init 13 = .ok (.bipush 100, 2) := by decide +kernel
theorem dX3_init_15 : decode cX3_init 15 = .ok (.newarray .int, 2) := by decide +kernel
theorem dX3_init_17 : decode cX3_init 17 = .ok (.putfield 15, 3) := by decide +kernel
theorem dX3_init_20 : decode cX3_init 20 = .ok (.aload_n 0, 1) := by decide +kernel
theorem dX3_init_21 : decode cX3_init 21 = .ok (.bipush 100, 2) := by decide +kernel
theorem dX3_init_23 : decode cX3_init 23 = .ok (.newarray .int, 2) := by decide +kernel
theorem dX3_init_25 : decode cX3_init 25 = .ok (.putfield 18, 3) := by decide +kernel
theorem dX3_init_28 : decode cX3_init 28 = .ok (.aload_n 0, 1) := by decide +kernel
theorem dX3_init_29 : decode cX3_init 29 = .ok (.iconst 0, 1) := by decide +kernel
theorem dX3_init_30 : decode cX3_init 30 = .ok (.putfield 21, 3) := by decide +kernel
theorem dX3_init_33 : decode cX3_init 33 = .ok (.return_, 1) := by decide +kernel
theorem dX3_clear_0 : decode cX3_clear 0 = .ok (.aload_n 0, 1) := by decide +kernel
theorem dX3_clear_1 : decode cX3_clear 1 = .ok (.iconst 0, 1) := by decide +kernel
theorem dX3_clear_2 : decode cX3_clear 2 = .ok (.putfield 21, 3) := by decide +kernel
theorem dX3_clear_5 : decode cX3_clear 5 = .ok (.return_, 1) := by decide +kernel
theorem dX3_size_0 : decode cX3_size 0 = .ok (.aload_n 0, 1) := by decide +kernel
theorem dX3_size_1 : decode cX3_size 1 = .ok (.getfield 21, 3) := by decide +kernel
theorem dX3_size_4 : decode cX3_size 4 = .ok (.ireturn, 1) := by decide +kernel
set_option maxRecDepth 20000 in
theorem ggX3_has_X5_isBelow : GoodIn wsX3_has wsX5_isBelow := goodIn_r _ [4] (by decide +kernel) (by decide +kernel)
set_option maxRecDepth 20000 in
theorem gX3_has_X5_isBelow_n25 : GoodIn wsX3_has (wsX5_isBelow) := ggX3_has_X5_isBelow
theorem dX3_has_0 : decode cX3_has 0 = .ok (.iload_n 1, 1) := by decide +kernel
theorem dX3_has_1 : decode cX3_has 1 = .ok (.aload_n 0, 1) := by decide +kernel
theorem dX3_has_2 : decode cX3_has 2 = .ok (.getfield 21, 3) := by decide +kernel
theorem dX3_has_5 : decode cX3_has 5 = .ok (.invokestatic 25, 3) := by decide +kernel
theorem dX3_has_8 : decode cX3_has 8 = .ok (.ifCond .eq 16, 3) := by decide +kernel
theorem dX3_has_11 : decode cX3_has 11 = .ok (.iload_n 1, 1) := by decide +kernel
theorem dX3_has_12 : decode cX3_has 12 = .ok (.bipush 100, 2) := by decide +kernel
theorem dX3_has_14 : decode cX3_has 14 = .ok (.invokestatic 25, 3) := by decide +kernel
theorem dX3_has_17 : decode cX3_has 17 = .ok (.ifCond .eq 7, 3) := by decide +kernel
theorem dX3_has_20 : decode cX3_has 20 = .ok (.iconst 1, 1) := by decide +kernel
theorem dX3_has_21 : decode cX3_has 21 = .ok (.goto 4, 3) := by decide +kernel
theorem dX3_has_24 : decode cX3_has 24 = .ok (.iconst 0, 1) := by decide +kernel
theorem dX3_has_25 : decode cX3_has 25 = .ok (.ireturn, 1) := by decide +kernel
set_option maxRecDepth 20000 in
theorem ggX3_append_X5_isBelow : GoodIn wsX3_append wsX5_isBelow := goodIn_r _ [7] (by decide +kernel) (by decide +kernel)
set_option maxRecDepth 20000 in
theorem gX3_append_X5_isBelow_n25 : GoodIn wsX3_append (wsX5_isBelow) := ggX3_append_X5_isBelow
theorem dX3_append_0 : decode cX3_append 0 = .ok (.aload_n 0, 1) := by decide +kernel
theorem dX3_append_1 : decode cX3_append 1 = .ok (.getfield 21, 3) := by decide +kernel
theorem dX3_append_4 : decode cX3_append 4 = .ok (.bipush 100, 2) := by decide +kernel
theorem dX3_append_6 : decode cX3_append 6 = .ok (.invokestatic 25, 3) := by decide +kernel
theorem dX3_append_9 : decode cX3_append 9 = .ok (.ifCond .ne 5, 3) := by decide +kernel
theorem dX3_append_12 : decode cX3_append 12 = .ok (.iconst 0, 1) := by decide +kernel
theorem dX3_append_13 : decode cX3_append 13 = .ok (.ireturn, 1) := by decide +kernel
theorem dX3_append_14 : decode cX3_append 14 = .ok (.aload_n 0, 1) := by decide +kernel
theorem dX3_append_15 : decode cX3_append 15 = .ok (.getfield 9, 3) := by decide +kernel
theorem dX3_append_18 : decode cX3_append 18 = .ok (.aload_n 0, 1) := by decide +kernel
theorem dX3_append_19 : decode cX3_append 19 = .ok (.getfield 21, 3) := by decide +kernel
theorem dX3_append_22 : decode cX3_append 22 = .ok (.iload_n 1, 1) := by decide +kernel
theorem dX3_append_23 : decode cX3_append 23 = .ok (.iastore, 1) := by decide +kernel
theorem dX3_append_24 : decode cX3_append 24 = .ok (.aload_n 0, 1) := by decide +kernel
theorem dX3_append_25 : decode cX3_append 25 = .ok (.getfield 15, 3) := by decide +kernel
theorem dX3_append_28 : decode cX3_append 28 = .ok (.aload_n 0, 1) := by decide +kernel
theorem dX3_append_29 : decode cX3_append 29 = .ok (.getfield 21, 3) := by decide +kernel
theorem dX3_append_32 : decode cX3_append 32 = .ok (.iload_n 2, 1) := by decide +kernel
theorem dX3_append_33 : decode cX3_append 33 = .ok (.iastore, 1) := by decide +kernel
theorem dX3_append_34 : decode cX3_append 34 = .ok (.aload_n 0, 1) := by decide +kernel
theorem dX3_append_35 : decode cX3_append 35 = .ok (.getfield 18, 3) := by decide +kernel
theorem dX3_append_38 : decode cX3_append 38 = .ok (.aload_n 0, 1) := by decide +kernel
theorem dX3_append_39 : decode cX3_append 39 = .ok (.getfield 21, 3) := by decide +kernel
theorem dX3_append_42 : decode cX3_append 42 = .ok (.iload_n 3, 1) := by decide +kernel
theorem dX3_append_43 : decode cX3_append 43 = .ok (.iastore, 1) := by decide +kernel
theorem dX3_append_44 : decode cX3_append 44 = .ok (.aload_n 0, 1) := by decide +kernel
theorem dX3_append_45 : decode cX3_append 45 = .ok (.dup, 1) := by decide +kernel
theorem dX3_append_46 : decode cX3_append 46 = .ok (.getfield 21, 3) := by decide +kernel
theorem dX3_append_49 : decode cX3_append 49 = .ok (.iconst 1, 1) := by decide +kernel
theorem dX3_append_50 : decode cX3_append 50 = .ok (.iadd, 1) := by decide +kernel
theorem dX3_append_51 : decode cX3_append 51 = .ok (.putfield 21, 3) := by decide +kernel
theorem dX3_append_54 : decode cX3_append 54 = .ok (.iconst 1, 1) := by decide +kernel
theorem dX3_append_55 : decode cX3_append 55 = .ok (.ireturn, 1) := by decide +kernel
set_option maxRecDepth 20000 in
theorem ggX3_addressOf_X3_has : GoodIn wsX3_addressOf wsX3_has := goodIn_r _ [6, 7, 8, 9, 10, 11, 12, 13, 14] (by decide +kernel) (by decide +kernel)
set_option maxRecDepth 20000 in
theorem gX3_addressOf_X3_has : GoodIn wsX3_addressOf (wsV RX3 29 RX3 yX3_has wsX3_has) := goodIn_app (goodIn_of _ (by decide +kernel)) ggX3_addressOf_X3_has
theorem dX3_addressOf_0 : decode cX3_addressOf 0 = .ok (.aload_n 0, 1) := by decide +kernel
theorem dX3_addressOf_1 : decode cX3_addressOf 1 = .ok (.iload_n 1, 1) := by decide +kernel
theorem dX3_addressOf_2 : decode cX3_addressOf 2 = .ok (.invokevirtual 29, 3) := by decide +kernel
theorem dX3_addressOf_5 : decode cX3_addressOf 5 = .ok (.ifCond .eq 12, 3) := by decide +kernel
theorem dX3_addressOf_8 : decode cX3_addressOf 8 = .ok (.aload_n 0, 1) := by decide +kernel
theorem dX3_addressOf_9 : decode cX3_addressOf 9 = .ok (.getfield 9, 3) := by decide +kernel
theorem dX3_addressOf_12 : decode cX3_addressOf 12 = .ok (.iload_n 1, 1) := by decide +kernel
theorem dX3_addressOf_13 : decode cX3_addressOf 13 = .ok (.iaload, 1) := by decide +kernel
theorem dX3_addressOf_14 : decode cX3_addressOf 14 = .ok (.goto 4, 3) := by decide +kernel
theorem dX3_addressOf_17 : decode cX3_addressOf 17 = .ok (.iconst 0, 1) := by decide +kernel
theorem dX3_addressOf_18 : decode cX3_addressOf 18 = .ok (.ireturn, 1) := by decide +kernel
set_option maxRecDepth 20000 in
theorem ggX3_distanceOf_X3_has : GoodIn wsX3_distanceOf wsX3_has := goodIn_r _ [6, 7, 8, 9, 10, 11, 12, 13, 14] (by decide +kernel) (by decide +kernel)
set_option maxRecDepth 20000 in
theorem gX3_distanceOf_X3_has : GoodIn wsX3_distanceOf (wsV RX3 29 RX3 yX3_has wsX3_has) := goodIn_app (goodIn_of _ (by decide +kernel)) ggX3_distanceOf_X3_has
theorem dX3_distanceOf_0 : decode cX3_distanceOf 0 = .ok (.aload_n 0, 1) := by decide +kernel
theorem dX3_distanceOf_1 : decode cX3_distanceOf 1 = .ok (.iload_n 1, 1) := by decide +kernel
theorem dX3_distanceOf_2 : decode cX3_distanceOf 2 = .ok (.invokevirtual 29, 3) := by decide +kernel
theorem dX3_distanceOf_5 : decode cX3_distanceOf 5 = .ok (.ifCond .eq 12, 3) := by decide +kernel
theorem dX3_distanceOf_8 : decode cX3_distanceOf 8 = .ok (.aload_n 0, 1) := by decide +kernel
theorem dX3_distanceOf_9 : decode cX3_distanceOf 9 = .ok (.getfield 15, 3) := by decide +kernel
theorem dX3_distanceOf_12 : decode cX3_distanceOf 12 = .ok (.iload_n 1, 1) := by decide +kernel
theorem dX3_distanceOf_13 : decode cX3_distanceOf 13 = .ok (.iaload, 1) := by decide +kernel
theorem dX3_distanceOf_14 : decode cX3_distanceOf 14 = .ok (.goto 4, 3) := by decide +kernel
theorem dX3_distanceOf_17 : decode cX3_distanceOf 17 = .ok (.iconst 0, 1) := by decide +kernel
theorem dX3_distanceOf_18 : decode cX3_distanceOf 18 = .ok (.ireturn, 1) := by decide +kernel
set_option maxRecDepth 20000 in
theorem ggX3_parentOf_X3_has : GoodIn wsX3_parentOf wsX3_has := goodIn_r _ [6, 7, 8, 9, 10, 11, 12, 13, 14] (by decide +kernel) (by decide +kernel)
set_option maxRecDepth 20000 in
theorem gX3_parentOf_X3_has : GoodIn wsX3_parentOf (wsV RX3 29 RX3 yX3_has wsX3_has) := goodIn_app (goodIn_of _ (by decide +kernel)) ggX3_parentOf_X3_has
theorem dX3_parentOf_0 : decode cX3_parentOf 0 = .ok (.aload_n 0, 1) := by decide +kernel
theorem dX3_parentOf_1 : decode cX3_parentOf 1 = .ok (.iload_n 1, 1) := by decide +kernel
theorem dX3_parentOf_2 : decode cX3_parentOf 2 = .ok (.invokevirtual 29, 3) := by decide +kernel
theorem dX3_parentOf_5 : decode cX3_parentOf 5 = .ok (.ifCond .eq 12, 3) := by decide +kernel
theorem dX3_parentOf_8 : decode cX3_parentOf 8 = .ok (.aload_n 0, 1) := by decide +kernel
theorem dX3_parentOf_9 : decode cX3_parentOf 9 = .ok (.getfield 18, 3) := by decide +kernel
theorem dX3_parentOf_12 : decode cX3_parentOf 12 = .ok (.iload_n 1, 1) := by decide +kernel
theorem dX3_parentOf_13 : decode cX3_parentOf 13 = .ok (.iaload, 1) := by decide +kernel
theorem dX3_parentOf_14 : decode cX3_parentOf 14 = .ok (.goto 5, 3) := by decide +kernel
theorem dX3_parentOf_17 : decode cX3_parentOf 17 = .ok (.bipush (-7), 2) := by decide +kernel
theorem dX3_parentOf_19 : decode cX3_parentOf 19 = .ok (.ireturn, 1) := by decide +kernel
theorem dX4_init_0 : decode cX4_init 0 = .ok (.aload_n 0, 1) := by decide +kernel
theorem dX4_init_1 : decode cX4_init 1 = .ok (.invokespecial 3, 3) := by decide +kernel
theorem dX4_init_4 : decode cX4_init 4 = .ok (.aload_n 0, 1) := by decide +kernel
theorem dX4_init_5 : decode cX4_init 5 = .ok (.iconst 0, 1) := by decide +kernel
theorem dX4_init_6 : decode cX4_init 6 = .ok (.putfield 9, 3) := by decide +kernel
theorem dX4_init_9 : decode cX4_init 9 = .ok (.aload_n 0, 1) := by decide +kernel
theorem dX4_init_10 : decode cX4_init 10 = .ok (.iconst 0, 1) := by decide +kernel
theorem dX4_init_11 : decode cX4_init 11 = .ok (.putfield 15, 3) := by decide +kernel
theorem dX4_init_14 : decode cX4_init 14 = .ok (.aload_n 0, 1) := by decide +kernel
theorem dX4_init_15 : decode cX4_init 15 = .ok (.iconst 0, 1) := by decide +kernel
theorem dX4_init_16 : decode cX4_init 16 = .ok (.putfield 18, 3) := by decide +kernel
theorem dX4_init_19 : decode cX4_init 19 = .ok (.aload_n 0, 1) := by decide +kernel
theorem dX4_init_20 : decode cX4_init 20 = .ok (.iconst 0, 1) := by decide +kernel
theorem dX4_init_21 : decode cX4_init 21 = .ok (.putfield 22, 3) := by decide +kernel
theorem dX4_init_24 : decode cX4_init 24 = .ok (.aload_n 0, 1) := by decide +kernel
theorem dX4_init_25 : decode cX4_init 25 = .ok (.iconst 0, 1) := by decide +kernel
theorem dX4_init_26 : decode cX4_init 26 = .ok (.putfield 25, 3) := by decide +kernel
theorem dX4_init_29 : decode cX4_init 29 = .ok (.return_, 1) := by decide +kernel
set_option maxRecDepth 20000 in
theorem ggX4_startUnmarked_X4_putMark : GoodIn wsX4_startUnmarked wsX4_putMark := goodIn_r _ [7, 8, 9, 10, 11, 12, 13, 14, 15] (by decide +kernel) (by decide +kernel)
set_option maxRecDepth 20000 in
theorem gX4_startUnmarked_X4_putMark : GoodIn wsX4_startUnmarked (wsV RX4 28 RX4 yX4_putMark wsX4_putMark) := goodIn_app (goodIn_of _ (by decide +kernel)) ggX4_startUnmarked_X4_putMark
theorem dX4_startUnmarked_0 : decode cX4_startUnmarked 0 = .ok (.aload_n 0, 1) := by decide +kernel
theorem dX4_startUnmarked_1 : decode cX4_startUnmarked 1 = .ok (.iconst 0, 1) := by decide +kernel
theorem dX4_startUnmarked_2 : decode cX4_startUnmarked 2 = .ok (.iconst 0, 1) := by decide +kernel
theorem dX4_startUnmarked_3 : decode cX4_startUnmarked 3 = .ok (.iconst 0, 1) := by decide +kernel
theorem dX4_startUnmarked_4 : decode cX4_startUnmarked 4 = .ok (.invokevirtual 28, 3) := by decide +kernel
theorem dX4_startUnmarked_7 : decode cX4_startUnmarked 7 = .ok (.aload_n 0, 1) := by decide +kernel
theorem dX4_startUnmarked_8 : decode cX4_startUnmarked 8 = .ok (.iconst 0, 1) := by decide +kernel
theorem dX4_startUnmarked_9 : decode cX4_startUnmarked 9 = .ok (.putfield 9, 3) := by decide +kernel
theorem dX4_startUnmarked_12 : decode cX4_startUnmarked 12 = .ok (.aload_n 0, 1) := by decide +kernel
theorem dX4_startUnmarked_13 : decode cX4_startUnmarked 13 = .ok (.iconst 0, 1) := by decide +kernel
theorem dX4_startUnmarked_14 : decode cX4_startUnmarked 14 = .ok (.putfield 15, 3) := by decide +kernel
theorem dX4_startUnmarked_17 : decode cX4_startUnmarked 17 = .ok (.return_, 1) := by decide +kernel
set_option maxRecDepth 20000 in
theorem ggX4_startForged_X4_putMark : GoodIn wsX4_startForged wsX4_putMark := goodIn_r _ [7, 8, 9, 10, 11, 12, 13, 14, 15] (by decide +kernel) (by decide +kernel)
set_option maxRecDepth 20000 in
theorem gX4_startForged_X4_putMark : GoodIn wsX4_startForged (wsV RX4 28 RX4 yX4_putMark wsX4_putMark) := goodIn_app (goodIn_of _ (by decide +kernel)) ggX4_startForged_X4_putMark
theorem dX4_startForged_0 : decode cX4_startForged 0 = .ok (.aload_n 0, 1) := by decide +kernel
theorem dX4_startForged_1 : decode cX4_startForged 1 = .ok (.iload_n 1, 1) := by decide +kernel
theorem dX4_startForged_2 : decode cX4_startForged 2 = .ok (.iload_n 2, 1) := by decide +kernel
theorem dX4_startForged_3 : decode cX4_startForged 3 = .ok (.iload_n 3, 1) := by decide +kernel
theorem dX4_startForged_4 : decode cX4_startForged 4 = .ok (.invokevirtual 28, 3) := by decide +kernel
theorem dX4_startForged_7 : decode cX4_startForged 7 = .ok (.aload_n 0, 1) := by decide +kernel
theorem dX4_startForged_8 : decode cX4_startForged 8 = .ok (.iconst 1, 1) := by decide +kernel
theorem dX4_startForged_9 : decode cX4_startForged 9 = .ok (.putfield 9, 3) := by decide +kernel
theorem dX4_startForged_12 : decode cX4_startForged 12 = .ok (.aload_n 0, 1) := by decide +kernel
theorem dX4_startForged_13 : decode cX4_startForged 13 = .ok (.iconst 0, 1) := by decide +kernel
theorem dX4_startForged_14 : decode cX4_startForged 14 = .ok (.putfield 15, 3) := by decide +kernel
theorem dX4_startForged_17 : decode cX4_startForged 17 = .ok (.return_, 1) := by decide +kernel
set_option maxRecDepth 20000 in
theorem ggX4_takeMark_X4_putMark : GoodIn wsX4_takeMark wsX4_putMark := goodIn_r _ [7, 8, 9, 10, 11, 12, 13, 14, 15] (by decide +kernel) (by decide +kernel)
set_option maxRecDepth 20000 in
theorem gX4_takeMark_X4_putMark : GoodIn wsX4_takeMark (wsV RX4 28 RX4 yX4_putMark wsX4_putMark) := goodIn_app (goodIn_of _ (by decide +kernel)) ggX4_takeMark_X4_putMark
theorem dX4_takeMark_0 : decode cX4_takeMark 0 = .ok (.aload_n 0, 1) := by decide +kernel
theorem dX4_takeMark_1 : decode cX4_takeMark 1 = .ok (.iconst 0, 1) := by decide +kernel
theorem dX4_takeMark_2 : decode cX4_takeMark 2 = .ok (.iload_n 1, 1) := by decide +kernel
theorem dX4_takeMark_3 : decode cX4_takeMark 3 = .ok (.iload_n 2, 1) := by decide +kernel
theorem dX4_takeMark_4 : decode cX4_takeMark 4 = .ok (.invokevirtual 28, 3) := by decide +kernel
theorem dX4_takeMark_7 : decode cX4_takeMark 7 = .ok (.aload_n 0, 1) := by decide +kernel
theorem dX4_takeMark_8 : decode cX4_takeMark 8 = .ok (.iconst 1, 1) := by decide +kernel
theorem dX4_takeMark_9 : decode cX4_takeMark 9 = .ok (.putfield 9, 3) := by decide +kernel
theorem dX4_takeMark_12 : decode cX4_takeMark 12 = .ok (.aload_n 0, 1) := by decide +kernel
theorem dX4_takeMark_13 : decode cX4_takeMark 13 = .ok (.iconst 1, 1) := by decide +kernel
theorem dX4_takeMark_14 : decode cX4_takeMark 14 = .ok (.putfield 15, 3) := by decide +kernel
theorem dX4_takeMark_17 : decode cX4_takeMark 17 = .ok (.return_, 1) := by decide +kernel
theorem dX4_putMark_0 : decode cX4_putMark 0 = .ok (.aload_n 0, 1) := by decide +kernel
theorem dX4_putMark_1 : decode cX4_putMark 1 = .ok (.iload_n 1, 1) := by decide +kernel
theorem dX4_putMark_2 : decode cX4_putMark 2 = .ok (.putfield 18, 3) := by decide +kernel
theorem dX4_putMark_5 : decode cX4_putMark 5 = .ok (.aload_n 0, 1) := by decide +kernel
theorem dX4_putMark_6 : decode cX4_putMark 6 = .ok (.iload_n 2, 1) := by decide +kernel
theorem dX4_putMark_7 : decode cX4_putMark 7 = .ok (.putfield 22, 3) := by decide +kernel
theorem dX4_putMark_10 : decode cX4_putMark 10 = .ok (.aload_n 0, 1) := by decide +kernel
theorem dX4_putMark_11 : decode cX4_putMark 11 = .ok (.iload_n 3, 1) := by decide +kernel
theorem dX4_putMark_12 : decode cX4_putMark 12 = .ok (.putfield 25, 3) := by decide +kernel
theorem dX4_putMark_15 : decode cX4_putMark 15 = .ok (.return_, 1) := by decide +kernel
set_option maxRecDepth 20000 in
theorem ggX4_goOn_X5_fragmentOf : GoodIn wsX4_goOn wsX5_fragmentOf := goodIn_r _ [7] (by decide +kernel) (by decide +kernel)
set_option maxRecDepth 20000 in
theorem gX4_goOn_X5_fragmentOf_n32 : GoodIn wsX4_goOn (wsX5_fragmentOf) := ggX4_goOn_X5_fragmentOf
theorem dX4_goOn_0 : decode cX4_goOn 0 = .ok (.aload_n 0, 1) := by decide +kernel
theorem dX4_goOn_1 : decode cX4_goOn 1 = .ok (.getfield 9, 3) := by decide +kernel
theorem dX4_goOn_4 : decode cX4_goOn 4 = .ok (.ifCond .ne 4, 3) := by decide +kernel
theorem dX4_goOn_7 : decode cX4_goOn 7 = .ok (.return_, 1) := by decide +kernel
theorem dX4_goOn_8 : decode cX4_goOn 8 = .ok (.aload_n 0, 1) := by decide +kernel
theorem dX4_goOn_9 : decode cX4_goOn 9 = .ok (.getfield 18, 3) := by decide +kernel
theorem dX4_goOn_12 : decode cX4_goOn 12 = .ok (.ifCond .ne 20, 3) := by decide +kernel
theorem dX4_goOn_15 : decode cX4_goOn 15 = .ok (.aload_n 0, 1) := by decide +kernel
theorem dX4_goOn_16 : decode cX4_goOn 16 = .ok (.dup, 1) := by decide +kernel
theorem dX4_goOn_17 : decode cX4_goOn 17 = .ok (.getfield 25, 3) := by decide +kernel
theorem dX4_goOn_20 : decode cX4_goOn 20 = .ok (.iload_n 1, 1) := by decide +kernel
theorem dX4_goOn_21 : decode cX4_goOn 21 = .ok (.aload_n 0, 1) := by decide +kernel
theorem dX4_goOn_22 : decode cX4_goOn 22 = .ok (.getfield 22, 3) := by decide +kernel
theorem dX4_goOn_25 : decode cX4_goOn 25 = .ok (.invokestatic 32, 3) := by decide +kernel
theorem dX4_goOn_28 : decode cX4_goOn 28 = .ok (.ixor, 1) := by decide +kernel
theorem dX4_goOn_29 : decode cX4_goOn 29 = .ok (.putfield 25, 3) := by decide +kernel
theorem dX4_goOn_32 : decode cX4_goOn 32 = .ok (.aload_n 0, 1) := by decide +kernel
theorem dX4_goOn_33 : decode cX4_goOn 33 = .ok (.getfield 18, 3) := by decide +kernel
theorem dX4_goOn_36 : decode cX4_goOn 36 = .ok (.bipush 31, 2) := by decide +kernel
theorem dX4_goOn_38 : decode cX4_goOn 38 = .ok (.if_icmp .ge 13, 3) := by decide +kernel
theorem dX4_goOn_41 : decode cX4_goOn 41 = .ok (.aload_n 0, 1) := by decide +kernel
theorem dX4_goOn_42 : decode cX4_goOn 42 = .ok (.dup, 1) := by decide +kernel
theorem dX4_goOn_43 : decode cX4_goOn 43 = .ok (.getfield 18, 3) := by decide +kernel
theorem dX4_goOn_46 : decode cX4_goOn 46 = .ok (.iconst 1, 1) := by decide +kernel
theorem dX4_goOn_47 : decode cX4_goOn 47 = .ok (.iadd, 1) := by decide +kernel
theorem dX4_goOn_48 : decode cX4_goOn 48 = .ok (.putfield 18, 3) := by decide +kernel
theorem dX4_goOn_51 : decode cX4_goOn 51 = .ok (.return_, 1) := by decide +kernel
theorem dX4_isMarked_0 : decode cX4_isMarked 0 = .ok (.aload_n 0, 1) := by decide +kernel
theorem dX4_isMarked_1 : decode cX4_isMarked 1 = .ok (.getfield 9, 3) := by decide +kernel
theorem dX4_isMarked_4 : decode cX4_isMarked 4 = .ok (.ireturn, 1) := by decide +kernel
theorem dX4_isMarkedByRouter_0 : decode cX4_isMarkedByRouter 0 = .ok (.aload_n 0, 1) := by decide +kernel
theorem dX4_isMarkedByRouter_1 : decode cX4_isMarkedByRouter 1 = .ok (.getfield 15, 3) := by decide +kernel
theorem dX4_isMarkedByRouter_4 : decode cX4_isMarkedByRouter 4 = .ok (.ireturn, 1) := by decide +kernel
theorem dX4_distance_0 : decode cX4_distance 0 = .ok (.aload_n 0, 1) := by decide +kernel
theorem dX4_distance_1 : decode cX4_distance 1 = .ok (.getfield 18, 3) := by decide +kernel
theorem dX4_distance_4 : decode cX4_distance 4 = .ok (.ireturn, 1) := by decide +kernel
theorem dX4_offset_0 : decode cX4_offset 0 = .ok (.aload_n 0, 1) := by decide +kernel
theorem dX4_offset_1 : decode cX4_offset 1 = .ok (.getfield 22, 3) := by decide +kernel
theorem dX4_offset_4 : decode cX4_offset 4 = .ok (.ireturn, 1) := by decide +kernel
theorem dX4_fragmentValue_0 : decode cX4_fragmentValue 0 = .ok (.aload_n 0, 1) := by decide +kernel
theorem dX4_fragmentValue_1 : decode cX4_fragmentValue 1 = .ok (.getfield 25, 3) := by decide +kernel
theorem dX4_fragmentValue_4 : decode cX4_fragmentValue 4 = .ok (.ireturn, 1) := by decide +kernel
theorem dJ6_bitCount_0f7a4_0 : decode cJ6_bitCount_0f7a4 0 = .ok (.iload_n 0, 1) := by decide +kernel
theorem dJ6_bitCount_0f7a4_1 : decode cJ6_bitCount_0f7a4 1 = .ok (.iload_n 0, 1) := by decide +kernel
theorem dJ6_bitCount_0f7a4_2 : decode cJ6_bitCount_0f7a4 2 = .ok (.iconst 1, 1) := by decide +kernel
theorem dJ6_bitCount_0f7a4_3 : decode cJ6_bitCount_0f7a4 3 = .ok (.iushr, 1) := by decide +kernel
theorem dJ6_bitCount_0f7a4_4 : decode cJ6_bitCount_0f7a4 4 = .ok (.ldc_w 265, 3) := by decide +kernel
theorem dJ6_bitCount_0f7a4_7 : decode cJ6_bitCount_0f7a4 7 = .ok (.iand, 1) := by decide +kernel
theorem dJ6_bitCount_0f7a4_8 : decode cJ6_bitCount_0f7a4 8 = .ok (.isub, 1) := by decide +kernel
theorem dJ6_bitCount_0f7a4_9 : decode cJ6_bitCount_0f7a4 9 = .ok (.istore_n 0, 1) := by decide +kernel
theorem dJ6_bitCount_0f7a4_10 : decode cJ6_bitCount_0f7a4 10 = .ok (.iload_n 0, 1) := by decide +kernel
theorem dJ6_bitCount_0f7a4_11 : decode cJ6_bitCount_0f7a4 11 = .ok (.ldc_w 266, 3) := by decide +kernel
theorem dJ6_bitCount_0f7a4_14 : decode cJ6_bitCount_0f7a4 14 = .ok (.iand, 1) := by decide +kernel
theorem dJ6_bitCount_0f7a4_15 : decode cJ6_bitCount_0f7a4 15 = .ok (.iload_n 0, 1) := by decide +kernel
theorem dJ6_bitCount_0f7a4_16 : decode cJ6_bitCount_0f7a4 16 = .ok (.iconst 2, 1) := by decide +kernel
theorem dJ6_bitCount_0f7a4_17 : decode cJ6_bitCount_0f7a4 17 = .ok (.iushr, 1) := by decide +kernel
theorem dJ6_bitCount_0f7a4_18 : decode cJ6_bitCount_0f7a4 18 = .ok (.ldc_w 266, 3) := by decide +kernel
theorem dJ6_bitCount_0f7a4_21 : decode cJ6_bitCount_0f7a4 21 = .ok (.iand, 1) := by decide +kernel
theorem dJ6_bitCount_0f7a4_22 : decode cJ6_bitCount_0f7a4 22 = .ok (.iadd, 1) := by decide +kernel
theorem dJ6_bitCount_0f7a4_23 : decode cJ6_bitCount_0f7a4 23 = .ok (.istore_n 0, 1) := by decide +kernel
theorem dJ6_bitCount_0f7a4_24 : decode cJ6_bitCount_0f7a4 24 = .ok (.iload_n 0, 1) := by decide +kernel
theorem dJ6_bitCount_0f7a4_25 : decode cJ6_bitCount_0f7a4 25 = .ok (.iload_n 0, 1) := by decide +kernel
theorem dJ6_bitCount_0f7a4_26 : decode cJ6_bitCount_0f7a4 26 = .ok (.iconst 4, 1) := by decide +kernel
theorem dJ6_bitCount_0f7a4_27 : decode cJ6_bitCount_0f7a4 27 = .ok (.iushr, 1) := by decide +kernel
theorem dJ6_bitCount_0f7a4_28 : decode cJ6_bitCount_0f7a4 28 = .ok (.iadd, 1) := by decide +kernel
theorem dJ6_bitCount_0f7a4_29 : decode cJ6_bitCount_0f7a4 29 = .ok (.ldc_w 267, 3) := by decide +kernel
theorem dJ6_bitCount_0f7a4_32 : decode cJ6_bitCount_0f7a4 32 = .ok (.iand, 1) := by decide +kernel
theorem dJ6_bitCount_0f7a4_33 : decode cJ6_bitCount_0f7a4 33 = .ok (.istore_n 0, 1) := by decide +kernel
theorem dJ6_bitCount_0f7a4_34 : decode cJ6_bitCount_0f7a4 34 = .ok (.iload_n 0, 1) := by decide +kernel
theorem dJ6_bitCount_0f7a4_35 : decode cJ6_bitCount_0f7a4 35 = .ok (.iload_n 0, 1) := by decide +kernel
theorem dJ6_bitCount_0f7a4_36 : decode cJ6_bitCount_0f7a4 36 = .ok (.bipush 8, 2) := by decide +kernel
theorem dJ6_bitCount_0f7a4_38 : decode cJ6_bitCount_0f7a4 38 = .ok (.iushr, 1) := by decide +kernel
theorem dJ6_bitCount_0f7a4_39 : decode cJ6_bitCount_0f7a4 39 = .ok (.iadd, 1) := by decide +kernel
theorem dJ6_bitCount_0f7a4_40 : decode cJ6_bitCount_0f7a4 40 = .ok (.istore_n 0, 1) := by decide +kernel
theorem dJ6_bitCount_0f7a4_41 : decode cJ6_bitCount_0f7a4 41 = .ok (.iload_n 0, 1) := by decide +kernel
theorem dJ6_bitCount_0f7a4_42 : decode cJ6_bitCount_0f7a4 42 = .ok (.iload_n 0, 1) := by decide +kernel
theorem dJ6_bitCount_0f7a4_43 : decode cJ6_bitCount_0f7a4 43 = .ok (.bipush 16, 2) := by decide +kernel
theorem dJ6_bitCount_0f7a4_45 : decode cJ6_bitCount_0f7a4 45 = .ok (.iushr, 1) := by decide +kernel
theorem dJ6_bitCount_0f7a4_46 : decode cJ6_bitCount_0f7a4 46 = .ok (.iadd, 1) := by decide +kernel
theorem dJ6_bitCount_0f7a4_47 : decode cJ6_bitCount_0f7a4 47 = .ok (.istore_n 0, 1) := by decide +kernel
theorem dJ6_bitCount_0f7a4_48 : decode cJ6_bitCount_0f7a4 48 = .ok (.iload_n 0, 1) := by decide +kernel
theorem dJ6_bitCount_0f7a4_49 : decode cJ6_bitCount_0f7a4 49 = .ok (.bipush 63, 2) := by decide +kernel
theorem dJ6_bitCount_0f7a4_51 : decode cJ6_bitCount_0f7a4 51 = .ok (.iand, 1) := by decide +kernel
theorem dJ6_bitCount_0f7a4_52 : decode cJ6_bitCount_0f7a4 52 = .ok (.ireturn, 1) := by decide +kernel
theorem dJ7_fill_53178_0 : decode cJ7_fill_53178 0 = .ok (.iconst 0, 1) := by decide +kernel
theorem dJ7_fill_53178_1 : decode cJ7_fill_53178 1 = .ok (.istore_n 2, 1) := by decide +kernel
theorem dJ7_fill_53178_2 : decode cJ7_fill_53178 2 = .ok (.aload_n 0, 1) := by decide +kernel
theorem dJ7_fill_53178_3 : decode cJ7_fill_53178 3 = .ok (.arraylength, 1) := by decide +kernel
theorem dJ7_fill_53178_4 : decode cJ7_fill_53178 4 = .ok (.istore_n 3, 1) := by decide +kernel
theorem dJ7_fill_53178_5 : decode cJ7_fill_53178 5 = .ok (.iload_n 2, 1) := by decide +kernel
theorem dJ7_fill_53178_6 : decode cJ7_fill_53178 6 = .ok (.iload_n 3, 1) := by decide +kernel
theorem dJ7_fill_53178_7 : decode cJ7_fill_53178 7 = .ok (.if_icmp .ge 13, 3) := by decide +kernel
theorem dJ7_fill_53178_10 : decode cJ7_fill_53178 10 = .ok (.aload_n 0, 1) := by decide +kernel
theorem dJ7_fill_53178_11 : decode cJ7_fill_53178 11 = .ok (.iload_n 2, 1) := by decide +kernel
theorem dJ7_fill_53178_12 : decode cJ7_fill_53178 12 = .ok (.iload_n 1, 1) := by decide +kernel
theorem dJ7_fill_53178_13 : decode cJ7_fill_53178 13 = .ok (.iastore, 1) := by decide +kernel
theorem dJ7_fill_53178_14 : decode cJ7_fill_53178 14 = .ok (.iinc 2 1, 3) := by decide +kernel
theorem dJ7_fill_53178_17 : decode cJ7_fill_53178 17 = .ok (.goto (-12), 3) := by decide +kernel
theorem dJ7_fill_53178_20 : decode cJ7_fill_53178 20 = .ok (.return_, 1) := by decide +kernel

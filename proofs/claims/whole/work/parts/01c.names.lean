theorem dX0_init_0 : decode cX0_init 0 = .ok (.aload_n 0, 1) := by decide +kernel
theorem dX0_init_1 : decode cX0_init 1 = .ok (.invokespecial 1, 3) := by decide +kernel
theorem dX0_init_4 : decode cX0_init 4 = .ok (.return_, 1) := by decide +kernel
theorem dX0_lastTime_0 : decode cX0_lastTime 0 = .ok (.aload_n 0, 1) := by decide +kernel
theorem dX0_lastTime_1 : decode cX0_lastTime 1 = .ok (.getfield 7, 3) := by decide +kernel
theorem dX0_lastTime_4 : decode cX0_lastTime 4 = .ok (.lreturn, 1) := by decide +kernel
theorem dX0_tell_0 : decode cX0_tell 0 = .ok (.aload_n 0, 1) := by decide +kernel
theorem dX0_tell_1 : decode cX0_tell 1 = .ok (.lload_n 2, 1) := by decide +kernel
theorem dX0_tell_2 : decode cX0_tell 2 = .ok (.putfield 7, 3) := by decide +kernel
theorem dX0_tell_5 : decode cX0_tell 5 = .ok (.iload_n 1, 1) := by decide +kernel
theorem dX0_tell_6 : decode cX0_tell 6 = .ok (.aload_n 0, 1) := by decide +kernel
theorem dX0_tell_7 : decode cX0_tell 7 = .ok (.getfield 13, 3) := by decide +kernel
theorem dX0_tell_10 : decode cX0_tell 10 = .ok (.if_icmp .eq 13, 3) := by decide +kernel
theorem dX0_tell_13 : decode cX0_tell 13 = .ok (.aload_n 0, 1) := by decide +kernel
theorem dX0_tell_14 : decode cX0_tell 14 = .ok (.iload_n 1, 1) := by decide +kernel
theorem dX0_tell_15 : decode cX0_tell 15 = .ok (.putfield 13, 3) := by decide +kernel
theorem dX0_tell_18 : decode cX0_tell 18 = .ok (.aload_n 0, 1) := by decide +kernel
theorem dX0_tell_19 : decode cX0_tell 19 = .ok (.lload_n 2, 1) := by decide +kernel
theorem dX0_tell_20 : decode cX0_tell 20 = .ok (.putfield 17, 3) := by decide +kernel
theorem dX0_tell_23 : decode cX0_tell 23 = .ok (.iload_n 1, 1) := by decide +kernel
theorem dX0_tell_24 : decode cX0_tell 24 = .ok (.aload_n 0, 1) := by decide +kernel
theorem dX0_tell_25 : decode cX0_tell 25 = .ok (.getfield 20, 3) := by decide +kernel
theorem dX0_tell_28 : decode cX0_tell 28 = .ok (.if_icmp .eq 16, 3) := by decide +kernel
theorem dX0_tell_31 : decode cX0_tell 31 = .ok (.lload_n 2, 1) := by decide +kernel
theorem dX0_tell_32 : decode cX0_tell 32 = .ok (.aload_n 0, 1) := by decide +kernel
theorem dX0_tell_33 : decode cX0_tell 33 = .ok (.getfield 17, 3) := by decide +kernel
theorem dX0_tell_36 : decode cX0_tell 36 = .ok (.lsub, 1) := by decide +kernel
theorem dX0_tell_37 : decode cX0_tell 37 = .ok (.ldc2_w 23, 3) := by decide +kernel
theorem dX0_tell_40 : decode cX0_tell 40 = .ok (.lcmp, 1) := by decide +kernel
theorem dX0_tell_41 : decode cX0_tell 41 = .ok (.ifCond .ge 5, 3) := by decide +kernel
theorem dX0_tell_44 : decode cX0_tell 44 = .ok (.iconst 0, 1) := by decide +kernel
theorem dX0_tell_45 : decode cX0_tell 45 = .ok (.ireturn, 1) := by decide +kernel
theorem dX0_tell_46 : decode cX0_tell 46 = .ok (.aload_n 0, 1) := by decide +kernel
theorem dX0_tell_47 : decode cX0_tell 47 = .ok (.iload_n 1, 1) := by decide +kernel
theorem dX0_tell_48 : decode cX0_tell 48 = .ok (.putfield 20, 3) := by decide +kernel
theorem dX0_tell_51 : decode cX0_tell 51 = .ok (.iconst 1, 1) := by decide +kernel
theorem dX0_tell_52 : decode cX0_tell 52 = .ok (.ireturn, 1) := by decide +kernel
theorem dX1_init_0 : decode cX1_init 0 = .ok (.aload_n 0, 1) := by decide +kernel
theorem dX1_init_1 : decode cX1_init 1 = .ok (.invokespecial 1, 3) := by decide +kernel
theorem dX1_init_4 : decode cX1_init 4 = .ok (.return_, 1) := by decide +kernel
theorem dX1_add_0 : decode cX1_add 0 = .ok (.aload_n 0, 1) := by decide +kernel
theorem dX1_add_1 : decode cX1_add 1 = .ok (.dup, 1) := by decide +kernel
theorem dX1_add_2 : decode cX1_add 2 = .ok (.getfield 7, 3) := by decide +kernel
theorem dX1_add_5 : decode cX1_add 5 = .ok (.iconst 1, 1) := by decide +kernel
theorem dX1_add_6 : decode cX1_add 6 = .ok (.iadd, 1) := by decide +kernel
theorem dX1_add_7 : decode cX1_add 7 = .ok (.putfield 7, 3) := by decide +kernel
theorem dX1_add_10 : decode cX1_add 10 = .ok (.aload_n 0, 1) := by decide +kernel
theorem dX1_add_11 : decode cX1_add 11 = .ok (.dup, 1) := by decide +kernel
theorem dX1_add_12 : decode cX1_add 12 = .ok (.getfield 13, 3) := by decide +kernel
theorem dX1_add_15 : decode cX1_add 15 = .ok (.iconst 1, 1) := by decide +kernel
theorem dX1_add_16 : decode cX1_add 16 = .ok (.iadd, 1) := by decide +kernel
theorem dX1_add_17 : decode cX1_add 17 = .ok (.putfield 13, 3) := by decide +kernel
theorem dX1_add_20 : decode cX1_add 20 = .ok (.aload_n 0, 1) := by decide +kernel
theorem dX1_add_21 : decode cX1_add 21 = .ok (.getfield 13, 3) := by decide +kernel
theorem dX1_add_24 : decode cX1_add 24 = .ok (.iconst 3, 1) := by decide +kernel
theorem dX1_add_25 : decode cX1_add 25 = .ok (.if_icmp .lt 8, 3) := by decide +kernel
theorem dX1_add_28 : decode cX1_add 28 = .ok (.aload_n 0, 1) := by decide +kernel
theorem dX1_add_29 : decode cX1_add 29 = .ok (.iconst 1, 1) := by decide +kernel
theorem dX1_add_30 : decode cX1_add 30 = .ok (.putfield 16, 3) := by decide +kernel
theorem dX1_add_33 : decode cX1_add 33 = .ok (.return_, 1) := by decide +kernel
theorem dX1_endStreak_0 : decode cX1_endStreak 0 = .ok (.aload_n 0, 1) := by decide +kernel
theorem dX1_endStreak_1 : decode cX1_endStreak 1 = .ok (.iconst 0, 1) := by decide +kernel
theorem dX1_endStreak_2 : decode cX1_endStreak 2 = .ok (.putfield 13, 3) := by decide +kernel
theorem dX1_endStreak_5 : decode cX1_endStreak 5 = .ok (.return_, 1) := by decide +kernel
theorem dX1_total_0 : decode cX1_total 0 = .ok (.aload_n 0, 1) := by decide +kernel
theorem dX1_total_1 : decode cX1_total 1 = .ok (.getfield 7, 3) := by decide +kernel
theorem dX1_total_4 : decode cX1_total 4 = .ok (.ireturn, 1) := by decide +kernel
theorem dX1_hasMark_0 : decode cX1_hasMark 0 = .ok (.aload_n 0, 1) := by decide +kernel
theorem dX1_hasMark_1 : decode cX1_hasMark 1 = .ok (.getfield 16, 3) := by decide +kernel
theorem dX1_hasMark_4 : decode cX1_hasMark 4 = .ok (.ireturn, 1) := by decide +kernel
theorem dX2_init_0 : decode cX2_init 0 = .ok (.aload_n 0, 1) := by decide +kernel
theorem dX2_init_1 : decode cX2_init 1 = .ok (.invokespecial 3, 3) := by decide +kernel
theorem dX2_init_4 : decode cX2_init 4 = .ok (.aload_n 0, 1) := by decide +kernel
theorem dX2_init_5 : decode cX2_init 5 = .ok (.iconst 4, 1) := by decide +kernel
theorem dX2_init_6 : decode cX2_init 6 = .ok (.newarray .int, 2) := by decide +kernel
theorem dX2_init_8 : decode cX2_init 8 = .ok (.putfield 11, 3) := by decide +kernel
theorem dX2_init_11 : decode cX2_init 11 = .ok (.return_, 1) := by decide +kernel
set_option maxRecDepth 20000 in
theorem ggX2_take_X2_dropRow : GoodIn wsX2_take wsX2_dropRow := goodIn_r _ [7, 2, 1, 21, 22, 23, 24] (by decide +kernel) (by decide +kernel)
set_option maxRecDepth 20000 in
theorem gX2_take_X2_dropRow : GoodIn wsX2_take (wsV RX2 15 RX2 yX2_dropRow wsX2_dropRow) := goodIn_app (goodIn_of _ (by decide +kernel)) ggX2_take_X2_dropRow
set_option maxRecDepth 20000 in
theorem ggX2_take_X2_finishRow : GoodIn wsX2_take wsX2_finishRow := goodIn_r _ [11, 12, 13, 14, 15, 16, 17, 18, 19, 20, 21, 22, 23, 24] (by decide +kernel) (by decide +kernel)
set_option maxRecDepth 20000 in
theorem gX2_take_X2_finishRow : GoodIn wsX2_take (wsV RX2 25 RX2 yX2_finishRow wsX2_finishRow) := goodIn_app (goodIn_of _ (by decide +kernel)) ggX2_take_X2_finishRow
theorem dX2_take_0 : decode cX2_take 0 = .ok (.iload_n 1, 1) := by decide +kernel
theorem dX2_take_1 : decode cX2_take 1 = .ok (.bipush 8, 2) := by decide +kernel
theorem dX2_take_3 : decode cX2_take 3 = .ok (.iand, 1) := by decide +kernel
theorem dX2_take_4 : decode cX2_take 4 = .ok (.ifCond .eq 10, 3) := by decide +kernel
theorem dX2_take_7 : decode cX2_take 7 = .ok (.aload_n 0, 1) := by decide +kernel
theorem dX2_take_8 : decode cX2_take 8 = .ok (.invokevirtual 15, 3) := by decide +kernel
theorem dX2_take_11 : decode cX2_take 11 = .ok (.goto 12, 3) := by decide +kernel
theorem dX2_take_14 : decode cX2_take 14 = .ok (.aload_n 0, 1) := by decide +kernel
theorem dX2_take_15 : decode cX2_take 15 = .ok (.getfield 18, 3) := by decide +kernel
theorem dX2_take_18 : decode cX2_take 18 = .ok (.ifCond .ne 5, 3) := by decide +kernel
theorem dX2_take_21 : decode cX2_take 21 = .ok (.iconst 1, 1) := by decide +kernel
theorem dX2_take_22 : decode cX2_take 22 = .ok (.ireturn, 1) := by decide +kernel
theorem dX2_take_23 : decode cX2_take 23 = .ok (.aload_n 0, 1) := by decide +kernel
theorem dX2_take_24 : decode cX2_take 24 = .ok (.aload_n 0, 1) := by decide +kernel
theorem dX2_take_25 : decode cX2_take 25 = .ok (.getfield 22, 3) := by decide +kernel
theorem dX2_take_28 : decode cX2_take 28 = .ok (.iconst 1, 1) := by decide +kernel
theorem dX2_take_29 : decode cX2_take 29 = .ok (.ishl, 1) := by decide +kernel
theorem dX2_take_30 : decode cX2_take 30 = .ok (.iload_n 1, 1) := by decide +kernel
theorem dX2_take_31 : decode cX2_take 31 = .ok (.iconst 4, 1) := by decide +kernel
theorem dX2_take_32 : decode cX2_take 32 = .ok (.iand, 1) := by decide +kernel
theorem dX2_take_33 : decode cX2_take 33 = .ok (.ifCond .eq 7, 3) := by decide +kernel
theorem dX2_take_36 : decode cX2_take 36 = .ok (.iconst 1, 1) := by decide +kernel
theorem dX2_take_37 : decode cX2_take 37 = .ok (.goto 4, 3) := by decide +kernel
theorem dX2_take_40 : decode cX2_take 40 = .ok (.iconst 0, 1) := by decide +kernel
theorem dX2_take_41 : decode cX2_take 41 = .ok (.ior, 1) := by decide +kernel
theorem dX2_take_42 : decode cX2_take 42 = .ok (.putfield 22, 3) := by decide +kernel
theorem dX2_take_45 : decode cX2_take 45 = .ok (.aload_n 0, 1) := by decide +kernel
theorem dX2_take_46 : decode cX2_take 46 = .ok (.dup, 1) := by decide +kernel
theorem dX2_take_47 : decode cX2_take 47 = .ok (.getfield 18, 3) := by decide +kernel
theorem dX2_take_50 : decode cX2_take 50 = .ok (.iconst 1, 1) := by decide +kernel
theorem dX2_take_51 : decode cX2_take 51 = .ok (.iadd, 1) := by decide +kernel
theorem dX2_take_52 : decode cX2_take 52 = .ok (.putfield 18, 3) := by decide +kernel
theorem dX2_take_55 : decode cX2_take 55 = .ok (.aload_n 0, 1) := by decide +kernel
theorem dX2_take_56 : decode cX2_take 56 = .ok (.getfield 18, 3) := by decide +kernel
theorem dX2_take_59 : decode cX2_take 59 = .ok (.bipush 16, 2) := by decide +kernel
theorem dX2_take_61 : decode cX2_take 61 = .ok (.if_icmp .ge 5, 3) := by decide +kernel
theorem dX2_take_64 : decode cX2_take 64 = .ok (.iconst 1, 1) := by decide +kernel
theorem dX2_take_65 : decode cX2_take 65 = .ok (.ireturn, 1) := by decide +kernel
theorem dX2_take_66 : decode cX2_take 66 = .ok (.aload_n 0, 1) := by decide +kernel
theorem dX2_take_67 : decode cX2_take 67 = .ok (.getfield 22, 3) := by decide +kernel
theorem dX2_take_70 : decode cX2_take 70 = .ok (.istore_n 2, 1) := by decide +kernel
theorem dX2_take_71 : decode cX2_take 71 = .ok (.aload_n 0, 1) := by decide +kernel
theorem dX2_take_72 : decode cX2_take 72 = .ok (.invokevirtual 15, 3) := by decide +kernel
theorem dX2_take_75 : decode cX2_take 75 = .ok (.aload_n 0, 1) := by decide +kernel
theorem dX2_take_76 : decode cX2_take 76 = .ok (.iload_n 2, 1) := by decide +kernel
theorem dX2_take_77 : decode cX2_take 77 = .ok (.invokevirtual 25, 3) := by decide +kernel
theorem dX2_take_80 : decode cX2_take 80 = .ok (.ireturn, 1) := by decide +kernel
theorem dX2_dropRow_0 : decode cX2_dropRow 0 = .ok (.aload_n 0, 1) := by decide +kernel
theorem dX2_dropRow_1 : decode cX2_dropRow 1 = .ok (.iconst 0, 1) := by decide +kernel
theorem dX2_dropRow_2 : decode cX2_dropRow 2 = .ok (.putfield 22, 3) := by decide +kernel
theorem dX2_dropRow_5 : decode cX2_dropRow 5 = .ok (.aload_n 0, 1) := by decide +kernel
theorem dX2_dropRow_6 : decode cX2_dropRow 6 = .ok (.iconst 0, 1) := by decide +kernel
theorem dX2_dropRow_7 : decode cX2_dropRow 7 = .ok (.putfield 18, 3) := by decide +kernel
theorem dX2_dropRow_10 : decode cX2_dropRow 10 = .ok (.return_, 1) := by decide +kernel
theorem dX2_size_0 : decode cX2_size 0 = .ok (.aload_n 0, 1) := by decide +kernel
theorem dX2_size_1 : decode cX2_size 1 = .ok (.getfield 29, 3) := by decide +kernel
theorem dX2_size_4 : decode cX2_size 4 = .ok (.ireturn, 1) := by decide +kernel
theorem dX2_messageAt_0 : decode cX2_messageAt 0 = .ok (.iload_n 1, 1) := by decide +kernel
theorem dX2_messageAt_1 : decode cX2_messageAt 1 = .ok (.ifCond .lt 24, 3) := by decide +kernel
theorem dX2_messageAt_4 : decode cX2_messageAt 4 = .ok (.iload_n 1, 1) := by decide +kernel
theorem dX2_messageAt_5 : decode cX2_messageAt 5 = .ok (.aload_n 0, 1) := by decide +kernel
theorem dX2_messageAt_6 : decode cX2_messageAt 6 = .ok (.getfield 29, 3) := by decide +kernel
theorem dX2_messageAt_9 : decode cX2_messageAt 9 = .ok (.if_icmp .ge 16, 3) := by decide +kernel
theorem dX2_messageAt_12 : decode cX2_messageAt 12 = .ok (.iload_n 1, 1) := by decide +kernel
theorem dX2_messageAt_13 : decode cX2_messageAt 13 = .ok (.aload_n 0, 1) := by decide +kernel
theorem dX2_messageAt_14 : decode cX2_messageAt 14 = .ok (.getfield 11, 3) := by decide +kernel
theorem dX2_messageAt_17 : decode cX2_messageAt 17 = .ok (.arraylength, 1) := by decide +kernel
theorem dX2_messageAt_18 : decode cX2_messageAt 18 = .ok (.if_icmp .ge 7, 3) := by decide +kernel
theorem dX2_messageAt_21 : decode cX2_messageAt 21 = .ok (.iconst 1, 1) := by decide +kernel
theorem dX2_messageAt_22 : decode cX2_messageAt 22 = .ok (.goto 4, 3) := by decide +kernel
theorem dX2_messageAt_25 : decode cX2_messageAt 25 = .ok (.iconst 0, 1) := by decide +kernel
theorem dX2_messageAt_26 : decode cX2_messageAt 26 = .ok (.istore_n 2, 1) := by decide +kernel
theorem dX2_messageAt_27 : decode cX2_messageAt 27 = .ok (.iload_n 2, 1) := by decide +kernel
theorem dX2_messageAt_28 : decode cX2_messageAt 28 = .ok (.ifCond .eq 12, 3) := by decide +kernel
theorem dX2_messageAt_31 : decode cX2_messageAt 31 = .ok (.aload_n 0, 1) := by decide +kernel
theorem dX2_messageAt_32 : decode cX2_messageAt 32 = .ok (.getfield 11, 3) := by decide +kernel
theorem dX2_messageAt_35 : decode cX2_messageAt 35 = .ok (.iload_n 1, 1) := by decide +kernel
theorem dX2_messageAt_36 : decode cX2_messageAt 36 = .ok (.iaload, 1) := by decide +kernel
theorem dX2_messageAt_37 : decode cX2_messageAt 37 = .ok (.goto 4, 3) := by decide +kernel
theorem dX2_messageAt_40 : decode cX2_messageAt 40 = .ok (.iconst (-1), 1) := by decide +kernel
theorem dX2_messageAt_41 : decode cX2_messageAt 41 = .ok (.ireturn, 1) := by decide +kernel
set_option maxRecDepth 20000 in
theorem ggX2_finishRow_X4_checking : GoodIn wsX2_finishRow wsX4_checking := goodIn_r _ [5, 6, 7, 8, 4, 9] (by decide +kernel) (by decide +kernel)
set_option maxRecDepth 20000 in
theorem gX2_finishRow_X4_checking_n32 : GoodIn wsX2_finishRow (wsX4_checking) := ggX2_finishRow_X4_checking
set_option maxRecDepth 20000 in
theorem ggX2_finishRow_X4_nibbleAt : GoodIn wsX2_finishRow wsX4_nibbleAt := goodIn_r _ [9] (by decide +kernel) (by decide +kernel)
set_option maxRecDepth 20000 in
theorem gX2_finishRow_X4_nibbleAt_n36 : GoodIn wsX2_finishRow (wsX4_nibbleAt) := ggX2_finishRow_X4_nibbleAt
theorem dX2_finishRow_0 : decode cX2_finishRow 0 = .ok (.iload_n 1, 1) := by decide +kernel
theorem dX2_finishRow_1 : decode cX2_finishRow 1 = .ok (.iconst 4, 1) := by decide +kernel
theorem dX2_finishRow_2 : decode cX2_finishRow 2 = .ok (.iushr, 1) := by decide +kernel
theorem dX2_finishRow_3 : decode cX2_finishRow 3 = .ok (.istore_n 2, 1) := by decide +kernel
theorem dX2_finishRow_4 : decode cX2_finishRow 4 = .ok (.iload_n 2, 1) := by decide +kernel
theorem dX2_finishRow_5 : decode cX2_finishRow 5 = .ok (.iconst 3, 1) := by decide +kernel
theorem dX2_finishRow_6 : decode cX2_finishRow 6 = .ok (.invokestatic 32, 3) := by decide +kernel
theorem dX2_finishRow_9 : decode cX2_finishRow 9 = .ok (.iload_n 1, 1) := by decide +kernel
theorem dX2_finishRow_10 : decode cX2_finishRow 10 = .ok (.iconst 0, 1) := by decide +kernel
theorem dX2_finishRow_11 : decode cX2_finishRow 11 = .ok (.invokestatic 36, 3) := by decide +kernel
theorem dX2_finishRow_14 : decode cX2_finishRow 14 = .ok (.if_icmp .eq 5, 3) := by decide +kernel
theorem dX2_finishRow_17 : decode cX2_finishRow 17 = .ok (.iconst 0, 1) := by decide +kernel
theorem dX2_finishRow_18 : decode cX2_finishRow 18 = .ok (.ireturn, 1) := by decide +kernel
theorem dX2_finishRow_19 : decode cX2_finishRow 19 = .ok (.aload_n 0, 1) := by decide +kernel
theorem dX2_finishRow_20 : decode cX2_finishRow 20 = .ok (.getfield 29, 3) := by decide +kernel
theorem dX2_finishRow_23 : decode cX2_finishRow 23 = .ok (.aload_n 0, 1) := by decide +kernel
theorem dX2_finishRow_24 : decode cX2_finishRow 24 = .ok (.getfield 11, 3) := by decide +kernel
theorem dX2_finishRow_27 : decode cX2_finishRow 27 = .ok (.arraylength, 1) := by decide +kernel
theorem dX2_finishRow_28 : decode cX2_finishRow 28 = .ok (.if_icmp .ge 23, 3) := by decide +kernel
theorem dX2_finishRow_31 : decode cX2_finishRow 31 = .ok (.aload_n 0, 1) := by decide +kernel
theorem dX2_finishRow_32 : decode cX2_finishRow 32 = .ok (.getfield 11, 3) := by decide +kernel
theorem dX2_finishRow_35 : decode cX2_finishRow 35 = .ok (.aload_n 0, 1) := by decide +kernel
theorem dX2_finishRow_36 : decode cX2_finishRow 36 = .ok (.getfield 29, 3) := by decide +kernel
theorem dX2_finishRow_39 : decode cX2_finishRow 39 = .ok (.iload_n 2, 1) := by decide +kernel
theorem dX2_finishRow_40 : decode cX2_finishRow 40 = .ok (.iastore, 1) := by decide +kernel
theorem dX2_finishRow_41 : decode cX2_finishRow 41 = .ok (.aload_n 0, 1) := by decide +kernel
theorem dX2_finishRow_42 : decode cX2_finishRow 42 = .ok (.dup, 1) := by decide +kernel
theorem dX2_finishRow_43 : decode cX2_finishRow 43 = .ok (.getfield 29, 3) := by decide +kernel
theorem dX2_finishRow_46 : decode cX2_finishRow 46 = .ok (.iconst 1, 1) := by decide +kernel
theorem dX2_finishRow_47 : decode cX2_finishRow 47 = .ok (.iadd, 1) := by decide +kernel
theorem dX2_finishRow_48 : decode cX2_finishRow 48 = .ok (.putfield 29, 3) := by decide +kernel
theorem dX2_finishRow_51 : decode cX2_finishRow 51 = .ok (.iconst 1, 1) := by decide +kernel
theorem dX2_finishRow_52 : decode cX2_finishRow 52 = .ok (.ireturn, 1) := by decide +kernel
theorem dX3_init_0 : decode cX3_init 0 = .ok (.aload_n 0, 1) := by decide +kernel
theorem dX3_init_1 : decode cX3_init 1 = .ok (.invokespecial 1, 3) := by decide +kernel
theorem dX3_init_4 : decode cX3_init 4 = .ok (.return_, 1) := by decide +kernel
theorem dX3_moveTo_0 : decode cX3_moveTo 0 = .ok (.iload_n 1, 1) := by decide +kernel
theorem dX3_moveTo_1 : decode cX3_moveTo 1 = .ok (.aload_n 0, 1) := by decide +kernel
theorem dX3_moveTo_2 : decode cX3_moveTo 2 = .ok (.getfield 7, 3) := by decide +kernel
theorem dX3_moveTo_5 : decode cX3_moveTo 5 = .ok (.if_icmp .eq 7, 3) := by decide +kernel
theorem dX3_moveTo_8 : decode cX3_moveTo 8 = .ok (.iconst 1, 1) := by decide +kernel
theorem dX3_moveTo_9 : decode cX3_moveTo 9 = .ok (.goto 4, 3) := by decide +kernel
theorem dX3_moveTo_12 : decode cX3_moveTo 12 = .ok (.iconst 0, 1) := by decide +kernel
theorem dX3_moveTo_13 : decode cX3_moveTo 13 = .ok (.istore_n 3, 1) := by decide +kernel
theorem dX3_moveTo_14 : decode cX3_moveTo 14 = .ok (.iload_n 2, 1) := by decide +kernel
theorem dX3_moveTo_15 : decode cX3_moveTo 15 = .ok (.aload_n 0, 1) := by decide +kernel
theorem dX3_moveTo_16 : decode cX3_moveTo 16 = .ok (.getfield 13, 3) := by decide +kernel
theorem dX3_moveTo_19 : decode cX3_moveTo 19 = .ok (.if_icmp .eq 7, 3) := by decide +kernel
theorem dX3_moveTo_22 : decode cX3_moveTo 22 = .ok (.iconst 1, 1) := by decide +kernel
theorem dX3_moveTo_23 : decode cX3_moveTo 23 = .ok (.goto 4, 3) := by decide +kernel
theorem dX3_moveTo_26 : decode cX3_moveTo 26 = .ok (.iconst 0, 1) := by decide +kernel
theorem dX3_moveTo_27 : decode cX3_moveTo 27 = .ok (.istore 4, 2) := by decide +kernel
theorem dX3_moveTo_29 : decode cX3_moveTo 29 = .ok (.aload_n 0, 1) := by decide +kernel
theorem dX3_moveTo_30 : decode cX3_moveTo 30 = .ok (.getfield 7, 3) := by decide +kernel
theorem dX3_moveTo_33 : decode cX3_moveTo 33 = .ok (.aload_n 0, 1) := by decide +kernel
theorem dX3_moveTo_34 : decode cX3_moveTo 34 = .ok (.getfield 13, 3) := by decide +kernel
theorem dX3_moveTo_37 : decode cX3_moveTo 37 = .ok (.if_icmp .ne 7, 3) := by decide +kernel
theorem dX3_moveTo_40 : decode cX3_moveTo 40 = .ok (.iconst 1, 1) := by decide +kernel
theorem dX3_moveTo_41 : decode cX3_moveTo 41 = .ok (.goto 4, 3) := by decide +kernel
theorem dX3_moveTo_44 : decode cX3_moveTo 44 = .ok (.iconst 0, 1) := by decide +kernel
theorem dX3_moveTo_45 : decode cX3_moveTo 45 = .ok (.istore 5, 2) := by decide +kernel
theorem dX3_moveTo_47 : decode cX3_moveTo 47 = .ok (.aload_n 0, 1) := by decide +kernel
theorem dX3_moveTo_48 : decode cX3_moveTo 48 = .ok (.iload_n 1, 1) := by decide +kernel
theorem dX3_moveTo_49 : decode cX3_moveTo 49 = .ok (.putfield 7, 3) := by decide +kernel
theorem dX3_moveTo_52 : decode cX3_moveTo 52 = .ok (.aload_n 0, 1) := by decide +kernel
theorem dX3_moveTo_53 : decode cX3_moveTo 53 = .ok (.iload_n 2, 1) := by decide +kernel
theorem dX3_moveTo_54 : decode cX3_moveTo 54 = .ok (.putfield 13, 3) := by decide +kernel
theorem dX3_moveTo_57 : decode cX3_moveTo 57 = .ok (.iload_n 3, 1) := by decide +kernel
theorem dX3_moveTo_58 : decode cX3_moveTo 58 = .ok (.ifCond .eq 10, 3) := by decide +kernel
theorem dX3_moveTo_61 : decode cX3_moveTo 61 = .ok (.iload 4, 2) := by decide +kernel
theorem dX3_moveTo_63 : decode cX3_moveTo 63 = .ok (.ifCond .eq 5, 3) := by decide +kernel
theorem dX3_moveTo_66 : decode cX3_moveTo 66 = .ok (.iconst 0, 1) := by decide +kernel
theorem dX3_moveTo_67 : decode cX3_moveTo 67 = .ok (.ireturn, 1) := by decide +kernel
theorem dX3_moveTo_68 : decode cX3_moveTo 68 = .ok (.iload_n 3, 1) := by decide +kernel
theorem dX3_moveTo_69 : decode cX3_moveTo 69 = .ok (.ifCond .ne 8, 3) := by decide +kernel
theorem dX3_moveTo_72 : decode cX3_moveTo 72 = .ok (.iload 4, 2) := by decide +kernel
theorem dX3_moveTo_74 : decode cX3_moveTo 74 = .ok (.ifCond .eq 23, 3) := by decide +kernel
theorem dX3_moveTo_77 : decode cX3_moveTo 77 = .ok (.aload_n 0, 1) := by decide +kernel
theorem dX3_moveTo_78 : decode cX3_moveTo 78 = .ok (.dup, 1) := by decide +kernel
theorem dX3_moveTo_79 : decode cX3_moveTo 79 = .ok (.getfield 16, 3) := by decide +kernel
theorem dX3_moveTo_82 : decode cX3_moveTo 82 = .ok (.iload_n 3, 1) := by decide +kernel
theorem dX3_moveTo_83 : decode cX3_moveTo 83 = .ok (.iload 5, 2) := by decide +kernel
theorem dX3_moveTo_85 : decode cX3_moveTo 85 = .ok (.if_icmp .ne 7, 3) := by decide +kernel
theorem dX3_moveTo_88 : decode cX3_moveTo 88 = .ok (.iconst 1, 1) := by decide +kernel
theorem dX3_moveTo_89 : decode cX3_moveTo 89 = .ok (.goto 4, 3) := by decide +kernel
theorem dX3_moveTo_92 : decode cX3_moveTo 92 = .ok (.iconst (-1), 1) := by decide +kernel
theorem dX3_moveTo_93 : decode cX3_moveTo 93 = .ok (.iadd, 1) := by decide +kernel
theorem dX3_moveTo_94 : decode cX3_moveTo 94 = .ok (.putfield 16, 3) := by decide +kernel
theorem dX3_moveTo_97 : decode cX3_moveTo 97 = .ok (.iconst 1, 1) := by decide +kernel
theorem dX3_moveTo_98 : decode cX3_moveTo 98 = .ok (.ireturn, 1) := by decide +kernel
theorem dX3_position_0 : decode cX3_position 0 = .ok (.aload_n 0, 1) := by decide +kernel
theorem dX3_position_1 : decode cX3_position 1 = .ok (.getfield 16, 3) := by decide +kernel
theorem dX3_position_4 : decode cX3_position 4 = .ok (.ireturn, 1) := by decide +kernel
set_option maxRecDepth 20000 in
theorem ggX4_init_X1_init : GoodIn wsX4_init wsX1_init := goodIn_r _ [26, 27, 2, 3] (by decide +kernel) (by decide +kernel)
set_option maxRecDepth 20000 in
theorem gX4_init_X1_init_n15 : GoodIn wsX4_init (wsX1_init) := ggX4_init_X1_init
set_option maxRecDepth 20000 in
theorem ggX4_init_X2_init : GoodIn wsX4_init wsX2_init := goodIn_r _ [29, 30, 2, 3, 21, 31, 53, 54, 55, 56] (by decide +kernel) (by decide +kernel)
set_option maxRecDepth 20000 in
theorem gX4_init_X2_init_n22 : GoodIn wsX4_init (wsX2_init) := ggX4_init_X2_init
set_option maxRecDepth 20000 in
theorem ggX4_init_X0_init : GoodIn wsX4_init wsX0_init := goodIn_r _ [33, 34, 2, 3] (by decide +kernel) (by decide +kernel)
set_option maxRecDepth 20000 in
theorem gX4_init_X0_init_n29 : GoodIn wsX4_init (wsX0_init) := ggX4_init_X0_init
set_option maxRecDepth 20000 in
theorem ggX4_init_X3_init : GoodIn wsX4_init wsX3_init := goodIn_r _ [36, 37, 2, 3] (by decide +kernel) (by decide +kernel)
set_option maxRecDepth 20000 in
theorem gX4_init_X3_init_n36 : GoodIn wsX4_init (wsX3_init) := ggX4_init_X3_init
theorem dX4_init_0 : decode cX4_init 0 = .ok (.aload_n 0, 1) := by decide +kernel
theorem dX4_init_1 : decode cX4_init 1 = .ok (.invokespecial 1, 3) := by decide +kernel
theorem dX4_init_4 : decode cX4_init 4 = .ok (.iload_n 1, 1) := by decide +kernel
theorem dX4_init_5 : decode cX4_init 5 = .ok (.iconst 1, 1) := by decide +kernel
theorem dX4_init_6 : decode cX4_init 6 = .ok (.if_icmp .lt 13, 3) := by decide +kernel
theorem dX4_init_9 : decode cX4_init 9 = .ok (.iload_n 1, 1) := by decide +kernel
theorem dX4_init_10 : decode cX4_init 10 = .ok (.bipush 30, 2) := by decide +kernel
theorem dX4_init_12 : decode cX4_init 12 = .ok (.if_icmp .gt 7, 3) := by decide +kernel
theorem dX4_init_15 : decode cX4_init 15 = .ok (.iconst 1, 1) := by decide +kernel
theorem dX4_init_16 : decode cX4_init 16 = .ok (.goto 4, 3) := by decide +kernel
theorem dX4_init_19 : decode cX4_init 19 = .ok (.iconst 0, 1) := by decide +kernel
theorem dX4_init_20 : decode cX4_init 20 = .ok (.istore_n 2, 1) := by decide +kernel
theorem dX4_init_21 : decode cX4_init 21 = .ok (.aload_n 0, 1) := by decide +kernel
theorem dX4_init_22 : decode cX4_init 22 = .ok (.iload_n 2, 1) := by decide +kernel
theorem dX4_init_23 : decode cX4_init 23 = .ok (.ifCond .eq 7, 3) := by decide +kernel
theorem dX4_init_26 : decode cX4_init 26 = .ok (.iload_n 1, 1) := by decide +kernel
theorem dX4_init_27 : decode cX4_init 27 = .ok (.goto 5, 3) := by decide +kernel
theorem dX4_init_30 : decode cX4_init 30 = .ok (.bipush 20, 2) := by decide +kernel
theorem dX4_init_32 : decode cX4_init 32 = .ok (.putfield 9, 3) := by decide +kernel
theorem dX4_init_35 : decode cX4_init 35 = .ok (.aload_n 0, 1) := by decide +kernel
theorem dX4_init_36 : decode cX4_init 36 = .ok (.new 13, 3) := by decide +kernel
theorem dX4_init_39 : decode cX4_init 39 = .ok (.dup, 1) := by decide +kernel
theorem dX4_init_40 : decode cX4_init 40 = .ok (.invokespecial 15, 3) := by decide +kernel
theorem dX4_init_43 : decode cX4_init 43 = .ok (.putfield 16, 3) := by decide +kernel
theorem dX4_init_46 : decode cX4_init 46 = .ok (.aload_n 0, 1) := by decide +kernel
theorem dX4_init_47 : decode cX4_init 47 = .ok (.new 20, 3) := by decide +kernel
theorem dX4_init_50 : decode cX4_init 50 = .ok (.dup, 1) := by decide +kernel
theorem dX4_init_51 : decode cX4_init 51 = .ok (.invokespecial 22, 3) := by decide +kernel
theorem dX4_init_54 : decode cX4_init 54 = .ok (.putfield 23, 3) := by decide +kernel
theorem dX4_init_57 : decode cX4_init 57 = .ok (.aload_n 0, 1) := by decide +kernel
theorem dX4_init_58 : decode cX4_init 58 = .ok (.new 27, 3) := by decide +kernel
theorem dX4_init_61 : decode cX4_init 61 = .ok (.dup, 1) := by decide +kernel
theorem dX4_init_62 : decode cX4_init 62 = .ok (.invokespecial 29, 3) := by decide +kernel
theorem dX4_init_65 : decode cX4_init 65 = .ok (.putfield 30, 3) := by decide +kernel
theorem dX4_init_68 : decode cX4_init 68 = .ok (.aload_n 0, 1) := by decide +kernel
theorem dX4_init_69 : decode cX4_init 69 = .ok (.new 34, 3) := by decide +kernel
theorem dX4_init_72 : decode cX4_init 72 = .ok (.dup, 1) := by decide +kernel
theorem dX4_init_73 : decode cX4_init 73 = .ok (.invokespecial 36, 3) := by decide +kernel
theorem dX4_init_76 : decode cX4_init 76 = .ok (.putfield 37, 3) := by decide +kernel
theorem dX4_init_79 : decode cX4_init 79 = .ok (.aload_n 0, 1) := by decide +kernel
theorem dX4_init_80 : decode cX4_init 80 = .ok (.bipush 64, 2) := by decide +kernel
theorem dX4_init_82 : decode cX4_init 82 = .ok (.newarray .int, 2) := by decide +kernel
theorem dX4_init_84 : decode cX4_init 84 = .ok (.putfield 41, 3) := by decide +kernel
theorem dX4_init_87 : decode cX4_init 87 = .ok (.aload_n 0, 1) := by decide +kernel
theorem dX4_init_88 : decode cX4_init 88 = .ok (.ldc2_w 45, 3) := by decide +kernel
theorem dX4_init_91 : decode cX4_init 91 = .ok (.putfield 47, 3) := by decide +kernel
theorem dX4_init_94 : decode cX4_init 94 = .ok (.return_, 1) := by decide +kernel
set_option maxRecDepth 20000 in
theorem ggX4_edge_X4_isOutsideTime : GoodIn wsX4_edge wsX4_isOutsideTime := goodIn_r _ [7, 8] (by decide +kernel) (by decide +kernel)
set_option maxRecDepth 20000 in
theorem gX4_edge_X4_isOutsideTime : GoodIn wsX4_edge (va_wsS RX4 51 yX4_isOutsideTime wsX4_isOutsideTime) := goodIn_app (goodIn_of _ (by decide +kernel)) ggX4_edge_X4_isOutsideTime
set_option maxRecDepth 20000 in
theorem ggX4_edge_X4_takeNibble : GoodIn wsX4_edge wsX4_takeNibble := goodIn_r _ [12, 13, 2, 3, 14, 15, 16, 17, 6, 18, 19, 20, 21, 22, 23, 24, 25, 26, 27, 28, 29, 30, 31, 32, 33, 34, 35, 36, 37, 38, 39, 40, 41, 42, 43, 44, 45, 46, 47, 48, 49, 50, 51, 52, 53, 54, 55, 56, 57, 58, 59, 60, 61, 62, 63, 64, 65, 66, 67, 68, 69, 70, 71, 72, 73, 74, 75, 76, 77, 78, 79, 80, 96, 97, 98, 99, 100, 101, 102, 103, 104, 105, 106, 107, 108, 109, 110, 111, 112, 113, 114] (by decide +kernel) (by decide +kernel)
set_option maxRecDepth 20000 in
theorem gX4_edge_X4_takeNibble : GoodIn wsX4_edge (wsV RX4 59 RX4 yX4_takeNibble wsX4_takeNibble) := goodIn_app (goodIn_of _ (by decide +kernel)) ggX4_edge_X4_takeNibble
set_option maxRecDepth 20000 in
theorem ggX4_edge_X4_takeCalibration : GoodIn wsX4_edge wsX4_takeCalibration := goodIn_r _ [84, 15, 3, 2, 13, 14, 85, 86, 87, 6, 88, 19, 89, 90, 91, 92, 93, 94, 95, 23, 24, 25, 26, 27, 28, 29, 30, 96, 97, 98, 99, 100, 101, 102, 103, 104, 105, 106, 107, 108, 109, 110] (by decide +kernel) (by decide +kernel)
set_option maxRecDepth 20000 in
theorem gX4_edge_X4_takeCalibration : GoodIn wsX4_edge (wsV RX4 63 RX4 yX4_takeCalibration wsX4_takeCalibration) := goodIn_app (goodIn_of _ (by decide +kernel)) ggX4_edge_X4_takeCalibration
theorem dX4_edge_0 : decode cX4_edge 0 = .ok (.lload_n 1, 1) := by decide +kernel
theorem dX4_edge_1 : decode cX4_edge 1 = .ok (.invokestatic 51, 3) := by decide +kernel
theorem dX4_edge_4 : decode cX4_edge 4 = .ok (.ifCond .ne 12, 3) := by decide +kernel
theorem dX4_edge_7 : decode cX4_edge 7 = .ok (.lload_n 1, 1) := by decide +kernel
theorem dX4_edge_8 : decode cX4_edge 8 = .ok (.aload_n 0, 1) := by decide +kernel
theorem dX4_edge_9 : decode cX4_edge 9 = .ok (.getfield 47, 3) := by decide +kernel
theorem dX4_edge_12 : decode cX4_edge 12 = .ok (.lcmp, 1) := by decide +kernel
theorem dX4_edge_13 : decode cX4_edge 13 = .ok (.ifCond .gt 6, 3) := by decide +kernel
theorem dX4_edge_16 : decode cX4_edge 16 = .ok (.bipush (-2), 2) := by decide +kernel
theorem dX4_edge_18 : decode cX4_edge 18 = .ok (.ireturn, 1) := by decide +kernel
theorem dX4_edge_19 : decode cX4_edge 19 = .ok (.aload_n 0, 1) := by decide +kernel
theorem dX4_edge_20 : decode cX4_edge 20 = .ok (.getfield 55, 3) := by decide +kernel
theorem dX4_edge_23 : decode cX4_edge 23 = .ok (.ifCond .eq 16, 3) := by decide +kernel
theorem dX4_edge_26 : decode cX4_edge 26 = .ok (.aload_n 0, 1) := by decide +kernel
theorem dX4_edge_27 : decode cX4_edge 27 = .ok (.lload_n 1, 1) := by decide +kernel
theorem dX4_edge_28 : decode cX4_edge 28 = .ok (.aload_n 0, 1) := by decide +kernel
theorem dX4_edge_29 : decode cX4_edge 29 = .ok (.getfield 47, 3) := by decide +kernel
theorem dX4_edge_32 : decode cX4_edge 32 = .ok (.lsub, 1) := by decide +kernel
theorem dX4_edge_33 : decode cX4_edge 33 = .ok (.invokevirtual 59, 3) := by decide +kernel
theorem dX4_edge_36 : decode cX4_edge 36 = .ok (.goto 22, 3) := by decide +kernel
theorem dX4_edge_39 : decode cX4_edge 39 = .ok (.aload_n 0, 1) := by decide +kernel
theorem dX4_edge_40 : decode cX4_edge 40 = .ok (.getfield 47, 3) := by decide +kernel
theorem dX4_edge_43 : decode cX4_edge 43 = .ok (.lconst 0, 1) := by decide +kernel
theorem dX4_edge_44 : decode cX4_edge 44 = .ok (.lcmp, 1) := by decide +kernel
theorem dX4_edge_45 : decode cX4_edge 45 = .ok (.ifCond .lt 13, 3) := by decide +kernel
theorem dX4_edge_48 : decode cX4_edge 48 = .ok (.aload_n 0, 1) := by decide +kernel
theorem dX4_edge_49 : decode cX4_edge 49 = .ok (.lload_n 1, 1) := by decide +kernel
theorem dX4_edge_50 : decode cX4_edge 50 = .ok (.aload_n 0, 1) := by decide +kernel
theorem dX4_edge_51 : decode cX4_edge 51 = .ok (.getfield 47, 3) := by decide +kernel
theorem dX4_edge_54 : decode cX4_edge 54 = .ok (.lsub, 1) := by decide +kernel
theorem dX4_edge_55 : decode cX4_edge 55 = .ok (.invokevirtual 63, 3) := by decide +kernel
theorem dX4_edge_58 : decode cX4_edge 58 = .ok (.aload_n 0, 1) := by decide +kernel
theorem dX4_edge_59 : decode cX4_edge 59 = .ok (.lload_n 1, 1) := by decide +kernel
theorem dX4_edge_60 : decode cX4_edge 60 = .ok (.putfield 47, 3) := by decide +kernel
theorem dX4_edge_63 : decode cX4_edge 63 = .ok (.aload_n 0, 1) := by decide +kernel
theorem dX4_edge_64 : decode cX4_edge 64 = .ok (.getfield 66, 3) := by decide +kernel
theorem dX4_edge_67 : decode cX4_edge 67 = .ok (.ireturn, 1) := by decide +kernel
set_option maxRecDepth 20000 in
theorem ggX4_nibble_X4_hasFrame : GoodIn wsX4_nibble wsX4_hasFrame := goodIn_r _ [10, 1, 5, 14, 15, 16, 17, 18, 19, 20, 21, 22, 23, 24, 25] (by decide +kernel) (by decide +kernel)
set_option maxRecDepth 20000 in
theorem gX4_nibble_X4_hasFrame : GoodIn wsX4_nibble (wsV RX4 72 RX4 yX4_hasFrame wsX4_hasFrame) := goodIn_app (goodIn_of _ (by decide +kernel)) ggX4_nibble_X4_hasFrame
set_option maxRecDepth 20000 in
theorem ggX4_nibble_X4_nibbleAt : GoodIn wsX4_nibble wsX4_nibbleAt := goodIn_r _ [13] (by decide +kernel) (by decide +kernel)
set_option maxRecDepth 20000 in
theorem gX4_nibble_X4_nibbleAt : GoodIn wsX4_nibble (va_wsS RX4 83 yX4_nibbleAt wsX4_nibbleAt) := goodIn_app (goodIn_of _ (by decide +kernel)) ggX4_nibble_X4_nibbleAt
theorem dX4_nibble_0 : decode cX4_nibble 0 = .ok (.iload_n 1, 1) := by decide +kernel
theorem dX4_nibble_1 : decode cX4_nibble 1 = .ok (.ifCond .lt 22, 3) := by decide +kernel
theorem dX4_nibble_4 : decode cX4_nibble 4 = .ok (.iload_n 1, 1) := by decide +kernel
theorem dX4_nibble_5 : decode cX4_nibble 5 = .ok (.bipush 8, 2) := by decide +kernel
theorem dX4_nibble_7 : decode cX4_nibble 7 = .ok (.if_icmp .ge 16, 3) := by decide +kernel
theorem dX4_nibble_10 : decode cX4_nibble 10 = .ok (.aload_n 0, 1) := by decide +kernel
theorem dX4_nibble_11 : decode cX4_nibble 11 = .ok (.aload_n 0, 1) := by decide +kernel
theorem dX4_nibble_12 : decode cX4_nibble 12 = .ok (.getfield 69, 3) := by decide +kernel
theorem dX4_nibble_15 : decode cX4_nibble 15 = .ok (.iconst 1, 1) := by decide +kernel
theorem dX4_nibble_16 : decode cX4_nibble 16 = .ok (.isub, 1) := by decide +kernel
theorem dX4_nibble_17 : decode cX4_nibble 17 = .ok (.invokevirtual 72, 3) := by decide +kernel
theorem dX4_nibble_20 : decode cX4_nibble 20 = .ok (.ifCond .ne 13, 3) := by decide +kernel
theorem dX4_nibble_23 : decode cX4_nibble 23 = .ok (.new 76, 3) := by decide +kernel
theorem dX4_nibble_26 : decode cX4_nibble 26 = .ok (.dup, 1) := by decide +kernel
theorem dX4_nibble_27 : decode cX4_nibble 27 = .ok (.ldc 78, 2) := by decide +kernel
theorem dX4_nibble_29 : decode cX4_nibble 29 = .ok (.invokespecial 80, 3) := by decide +kernel
theorem dX4_nibble_32 : decode cX4_nibble 32 = .ok (.athrow, 1) := by decide +kernel
theorem dX4_nibble_33 : decode cX4_nibble 33 = .ok (.aload_n 0, 1) := by decide +kernel
theorem dX4_nibble_34 : decode cX4_nibble 34 = .ok (.getfield 41, 3) := by decide +kernel
theorem dX4_nibble_37 : decode cX4_nibble 37 = .ok (.aload_n 0, 1) := by decide +kernel
theorem dX4_nibble_38 : decode cX4_nibble 38 = .ok (.getfield 69, 3) := by decide +kernel
theorem dX4_nibble_41 : decode cX4_nibble 41 = .ok (.iconst 1, 1) := by decide +kernel
theorem dX4_nibble_42 : decode cX4_nibble 42 = .ok (.isub, 1) := by decide +kernel
theorem dX4_nibble_43 : decode cX4_nibble 43 = .ok (.iaload, 1) := by decide +kernel
theorem dX4_nibble_44 : decode cX4_nibble 44 = .ok (.bipush 7, 2) := by decide +kernel
theorem dX4_nibble_46 : decode cX4_nibble 46 = .ok (.iload_n 1, 1) := by decide +kernel
theorem dX4_nibble_47 : decode cX4_nibble 47 = .ok (.isub, 1) := by decide +kernel
theorem dX4_nibble_48 : decode cX4_nibble 48 = .ok (.invokestatic 83, 3) := by decide +kernel
theorem dX4_nibble_51 : decode cX4_nibble 51 = .ok (.ireturn, 1) := by decide +kernel
set_option maxRecDepth 20000 in
theorem ggX4_check_X4_checking : GoodIn wsX4_check wsX4_checking := goodIn_r _ [4, 5, 6, 7, 3, 8] (by decide +kernel) (by decide +kernel)
set_option maxRecDepth 20000 in
theorem gX4_check_X4_checking : GoodIn wsX4_check (va_wsS RX4 87 yX4_checking wsX4_checking) := goodIn_app (goodIn_of _ (by decide +kernel)) ggX4_check_X4_checking
theorem dX4_check_0 : decode cX4_check 0 = .ok (.iconst 0, 1) := by decide +kernel
theorem dX4_check_1 : decode cX4_check 1 = .ok (.istore_n 2, 1) := by decide +kernel
theorem dX4_check_2 : decode cX4_check 2 = .ok (.iload_n 2, 1) := by decide +kernel
theorem dX4_check_3 : decode cX4_check 3 = .ok (.bipush 8, 2) := by decide +kernel
theorem dX4_check_5 : decode cX4_check 5 = .ok (.if_icmp .ge 17, 3) := by decide +kernel
theorem dX4_check_8 : decode cX4_check 8 = .ok (.iload_n 1, 1) := by decide +kernel
theorem dX4_check_9 : decode cX4_check 9 = .ok (.iconst 4, 1) := by decide +kernel
theorem dX4_check_10 : decode cX4_check 10 = .ok (.iload_n 2, 1) := by decide +kernel
theorem dX4_check_11 : decode cX4_check 11 = .ok (.imul, 1) := by decide +kernel
theorem dX4_check_12 : decode cX4_check 12 = .ok (.iushr, 1) := by decide +kernel
theorem dX4_check_13 : decode cX4_check 13 = .ok (.ifCond .eq 9, 3) := by decide +kernel
theorem dX4_check_16 : decode cX4_check 16 = .ok (.iinc 2 1, 3) := by decide +kernel
theorem dX4_check_19 : decode cX4_check 19 = .ok (.goto (-17), 3) := by decide +kernel
theorem dX4_check_22 : decode cX4_check 22 = .ok (.iload_n 1, 1) := by decide +kernel
theorem dX4_check_23 : decode cX4_check 23 = .ok (.iload_n 2, 1) := by decide +kernel
theorem dX4_check_24 : decode cX4_check 24 = .ok (.invokestatic 87, 3) := by decide +kernel
theorem dX4_check_27 : decode cX4_check 27 = .ok (.ireturn, 1) := by decide +kernel
set_option maxRecDepth 20000 in
theorem ggX4_slow_X2_size : GoodIn wsX4_slow wsX2_size := goodIn_r _ [6, 7, 25, 26, 27, 28] (by decide +kernel) (by decide +kernel)
set_option maxRecDepth 20000 in
theorem gX4_slow_X2_size : GoodIn wsX4_slow (wsV RX4 90 RX2 yX2_size wsX2_size) := goodIn_app (goodIn_of _ (by decide +kernel)) ggX4_slow_X2_size
set_option maxRecDepth 20000 in
theorem ggX4_slow_X2_messageAt : GoodIn wsX4_slow wsX2_messageAt := goodIn_r _ [11, 7, 12, 25, 26, 27, 28] (by decide +kernel) (by decide +kernel)
set_option maxRecDepth 20000 in
theorem gX4_slow_X2_messageAt : GoodIn wsX4_slow (wsV RX4 94 RX2 yX2_messageAt wsX2_messageAt) := goodIn_app (goodIn_of _ (by decide +kernel)) ggX4_slow_X2_messageAt
theorem dX4_slow_0 : decode cX4_slow 0 = .ok (.iload_n 1, 1) := by decide +kernel
theorem dX4_slow_1 : decode cX4_slow 1 = .ok (.iconst (-1), 1) := by decide +kernel
theorem dX4_slow_2 : decode cX4_slow 2 = .ok (.if_icmp .ne 13, 3) := by decide +kernel
theorem dX4_slow_5 : decode cX4_slow 5 = .ok (.aload_n 0, 1) := by decide +kernel
theorem dX4_slow_6 : decode cX4_slow 6 = .ok (.getfield 23, 3) := by decide +kernel
theorem dX4_slow_9 : decode cX4_slow 9 = .ok (.invokevirtual 90, 3) := by decide +kernel
theorem dX4_slow_12 : decode cX4_slow 12 = .ok (.goto 11, 3) := by decide +kernel
theorem dX4_slow_15 : decode cX4_slow 15 = .ok (.aload_n 0, 1) := by decide +kernel
theorem dX4_slow_16 : decode cX4_slow 16 = .ok (.getfield 23, 3) := by decide +kernel
theorem dX4_slow_19 : decode cX4_slow 19 = .ok (.iload_n 1, 1) := by decide +kernel
theorem dX4_slow_20 : decode cX4_slow 20 = .ok (.invokevirtual 94, 3) := by decide +kernel
theorem dX4_slow_23 : decode cX4_slow 23 = .ok (.ireturn, 1) := by decide +kernel
set_option maxRecDepth 20000 in
theorem ggX4_row_X4_hasFrame : GoodIn wsX4_row wsX4_hasFrame := goodIn_r _ [7, 1, 2, 25, 26, 27, 28, 29, 30, 31, 32, 33, 34, 35, 36] (by decide +kernel) (by decide +kernel)
set_option maxRecDepth 20000 in
theorem gX4_row_X4_hasFrame : GoodIn wsX4_row (wsV RX4 72 RX4 yX4_hasFrame wsX4_hasFrame) := goodIn_app (goodIn_of _ (by decide +kernel)) ggX4_row_X4_hasFrame
set_option maxRecDepth 20000 in
theorem ggX4_row_X4_statusOf : GoodIn wsX4_row wsX4_statusOf := goodIn_r _ [10, 11, 12, 6, 13] (by decide +kernel) (by decide +kernel)
set_option maxRecDepth 20000 in
theorem gX4_row_X4_statusOf : GoodIn wsX4_row (va_wsS RX4 98 yX4_statusOf wsX4_statusOf) := goodIn_app (goodIn_of _ (by decide +kernel)) ggX4_row_X4_statusOf
set_option maxRecDepth 20000 in
theorem ggX4_row_X4_dataOf : GoodIn wsX4_row wsX4_dataOf := goodIn_r _ [16, 17] (by decide +kernel) (by decide +kernel)
set_option maxRecDepth 20000 in
theorem gX4_row_X4_dataOf : GoodIn wsX4_row (va_wsS RX4 101 yX4_dataOf wsX4_dataOf) := goodIn_app (goodIn_of _ (by decide +kernel)) ggX4_row_X4_dataOf
set_option maxRecDepth 20000 in
theorem ggX4_row_X4_isRight : GoodIn wsX4_row wsX4_isRight := goodIn_r _ [20, 14, 15, 6, 16, 17, 21, 22, 23, 24, 11, 12, 13] (by decide +kernel) (by decide +kernel)
set_option maxRecDepth 20000 in
theorem gX4_row_X4_isRight : GoodIn wsX4_row (va_wsS RX4 104 yX4_isRight wsX4_isRight) := goodIn_app (goodIn_of _ (by decide +kernel)) ggX4_row_X4_isRight
theorem dX4_row_0 : decode cX4_row 0 = .ok (.iload_n 1, 1) := by decide +kernel
theorem dX4_row_1 : decode cX4_row 1 = .ok (.iconst (-1), 1) := by decide +kernel
theorem dX4_row_2 : decode cX4_row 2 = .ok (.if_icmp .ne 12, 3) := by decide +kernel
theorem dX4_row_5 : decode cX4_row 5 = .ok (.iload_n 2, 1) := by decide +kernel
theorem dX4_row_6 : decode cX4_row 6 = .ok (.ifCond .ne 8, 3) := by decide +kernel
theorem dX4_row_9 : decode cX4_row 9 = .ok (.aload_n 0, 1) := by decide +kernel
theorem dX4_row_10 : decode cX4_row 10 = .ok (.getfield 69, 3) := by decide +kernel
theorem dX4_row_13 : decode cX4_row 13 = .ok (.ireturn, 1) := by decide +kernel
theorem dX4_row_14 : decode cX4_row 14 = .ok (.aload_n 0, 1) := by decide +kernel
theorem dX4_row_15 : decode cX4_row 15 = .ok (.iload_n 1, 1) := by decide +kernel
theorem dX4_row_16 : decode cX4_row 16 = .ok (.invokevirtual 72, 3) := by decide +kernel
theorem dX4_row_19 : decode cX4_row 19 = .ok (.ifCond .ne 5, 3) := by decide +kernel
theorem dX4_row_22 : decode cX4_row 22 = .ok (.iconst (-1), 1) := by decide +kernel
theorem dX4_row_23 : decode cX4_row 23 = .ok (.ireturn, 1) := by decide +kernel
theorem dX4_row_24 : decode cX4_row 24 = .ok (.aload_n 0, 1) := by decide +kernel
theorem dX4_row_25 : decode cX4_row 25 = .ok (.getfield 41, 3) := by decide +kernel
theorem dX4_row_28 : decode cX4_row 28 = .ok (.iload_n 1, 1) := by decide +kernel
theorem dX4_row_29 : decode cX4_row 29 = .ok (.iaload, 1) := by decide +kernel
theorem dX4_row_30 : decode cX4_row 30 = .ok (.istore_n 3, 1) := by decide +kernel
theorem dX4_row_31 : decode cX4_row 31 = .ok (.iload_n 2, 1) := by decide +kernel
theorem dX4_row_32 : decode cX4_row 32 = .ok (.tableswitch 51 0 2 #[28, 33, 38], 28) := by decide +kernel
theorem dX4_row_60 : decode cX4_row 60 = .ok (.iload_n 3, 1) := by decide +kernel
theorem dX4_row_61 : decode cX4_row 61 = .ok (.invokestatic 98, 3) := by decide +kernel
theorem dX4_row_64 : decode cX4_row 64 = .ok (.ireturn, 1) := by decide +kernel
theorem dX4_row_65 : decode cX4_row 65 = .ok (.iload_n 3, 1) := by decide +kernel
theorem dX4_row_66 : decode cX4_row 66 = .ok (.invokestatic 101, 3) := by decide +kernel
theorem dX4_row_69 : decode cX4_row 69 = .ok (.ireturn, 1) := by decide +kernel
theorem dX4_row_70 : decode cX4_row 70 = .ok (.iload_n 3, 1) := by decide +kernel
theorem dX4_row_71 : decode cX4_row 71 = .ok (.invokestatic 104, 3) := by decide +kernel
theorem dX4_row_74 : decode cX4_row 74 = .ok (.ifCond .eq 7, 3) := by decide +kernel
theorem dX4_row_77 : decode cX4_row 77 = .ok (.iconst 1, 1) := by decide +kernel
theorem dX4_row_78 : decode cX4_row 78 = .ok (.goto 4, 3) := by decide +kernel
theorem dX4_row_81 : decode cX4_row 81 = .ok (.iconst 0, 1) := by decide +kernel
theorem dX4_row_82 : decode cX4_row 82 = .ok (.ireturn, 1) := by decide +kernel
theorem dX4_row_83 : decode cX4_row 83 = .ok (.bipush (-2), 2) := by decide +kernel
theorem dX4_row_85 : decode cX4_row 85 = .ok (.ireturn, 1) := by decide +kernel
set_option maxRecDepth 20000 in
theorem ggX4_calibrate_X4_isTaken : GoodIn wsX4_calibrate wsX4_isTaken := goodIn_r _ [8, 9, 3, 10, 11, 12, 13, 14, 15, 16, 17, 18, 19, 20, 21, 22, 23, 24, 25, 26, 27, 28] (by decide +kernel) (by decide +kernel)
set_option maxRecDepth 20000 in
theorem gX4_calibrate_X4_isTaken : GoodIn wsX4_calibrate (wsV RX4 112 RX4 yX4_isTaken wsX4_isTaken) := goodIn_app (goodIn_of _ (by decide +kernel)) ggX4_calibrate_X4_isTaken
theorem dX4_calibrate_0 : decode cX4_calibrate 0 = .ok (.lload_n 1, 1) := by decide +kernel
theorem dX4_calibrate_1 : decode cX4_calibrate 1 = .ok (.lconst 0, 1) := by decide +kernel
theorem dX4_calibrate_2 : decode cX4_calibrate 2 = .ok (.lcmp, 1) := by decide +kernel
theorem dX4_calibrate_3 : decode cX4_calibrate 3 = .ok (.ifCond .ne 13, 3) := by decide +kernel
theorem dX4_calibrate_6 : decode cX4_calibrate 6 = .ok (.new 107, 3) := by decide +kernel
theorem dX4_calibrate_9 : decode cX4_calibrate 9 = .ok (.dup, 1) := by decide +kernel
theorem dX4_calibrate_10 : decode cX4_calibrate 10 = .ok (.ldc 109, 2) := by decide +kernel
theorem dX4_calibrate_12 : decode cX4_calibrate 12 = .ok (.invokespecial 111, 3) := by decide +kernel
theorem dX4_calibrate_15 : decode cX4_calibrate 15 = .ok (.athrow, 1) := by decide +kernel
theorem dX4_calibrate_16 : decode cX4_calibrate 16 = .ok (.aload_n 0, 1) := by decide +kernel
theorem dX4_calibrate_17 : decode cX4_calibrate 17 = .ok (.lload_n 1, 1) := by decide +kernel
theorem dX4_calibrate_18 : decode cX4_calibrate 18 = .ok (.invokevirtual 112, 3) := by decide +kernel
theorem dX4_calibrate_21 : decode cX4_calibrate 21 = .ok (.ifCond .eq 12, 3) := by decide +kernel
theorem dX4_calibrate_24 : decode cX4_calibrate 24 = .ok (.ldc2_w 115, 3) := by decide +kernel
theorem dX4_calibrate_27 : decode cX4_calibrate 27 = .ok (.lload_n 1, 1) := by decide +kernel
theorem dX4_calibrate_28 : decode cX4_calibrate 28 = .ok (.ldiv, 1) := by decide +kernel
theorem dX4_calibrate_29 : decode cX4_calibrate 29 = .ok (.l2i, 1) := by decide +kernel
theorem dX4_calibrate_30 : decode cX4_calibrate 30 = .ok (.goto 4, 3) := by decide +kernel
theorem dX4_calibrate_33 : decode cX4_calibrate 33 = .ok (.iconst 0, 1) := by decide +kernel
theorem dX4_calibrate_34 : decode cX4_calibrate 34 = .ok (.ireturn, 1) := by decide +kernel
set_option maxRecDepth 20000 in
theorem ggX4_parity_J6_bitCount_0f7a4 : GoodIn wsX4_parity wsJ6_bitCount_0f7a4 := goodIn_r _ [4, 5, 6, 7] (by decide +kernel) (by decide +kernel)
set_option maxRecDepth 20000 in
theorem gX4_parity_J6_bitCount_0f7a4 : GoodIn wsX4_parity (va_wsS RX4 117 yJ6_bitCount_0f7a4 wsJ6_bitCount_0f7a4) := goodIn_app (goodIn_of _ (by decide +kernel)) ggX4_parity_J6_bitCount_0f7a4
theorem dX4_parity_0 : decode cX4_parity 0 = .ok (.iload_n 1, 1) := by decide +kernel
theorem dX4_parity_1 : decode cX4_parity 1 = .ok (.invokestatic 117, 3) := by decide +kernel
theorem dX4_parity_4 : decode cX4_parity 4 = .ok (.iconst 1, 1) := by decide +kernel
theorem dX4_parity_5 : decode cX4_parity 5 = .ok (.iand, 1) := by decide +kernel
theorem dX4_parity_6 : decode cX4_parity 6 = .ok (.ireturn, 1) := by decide +kernel
set_option maxRecDepth 20000 in
theorem ggX4_bounce_X4_isOutsideTime : GoodIn wsX4_bounce wsX4_isOutsideTime := goodIn_r _ [5, 6] (by decide +kernel) (by decide +kernel)
set_option maxRecDepth 20000 in
theorem gX4_bounce_X4_isOutsideTime : GoodIn wsX4_bounce (va_wsS RX4 51 yX4_isOutsideTime wsX4_isOutsideTime) := goodIn_app (goodIn_of _ (by decide +kernel)) ggX4_bounce_X4_isOutsideTime
set_option maxRecDepth 20000 in
theorem ggX4_bounce_X0_lastTime : GoodIn wsX4_bounce wsX0_lastTime := goodIn_r _ [11, 12, 33, 34, 35, 36] (by decide +kernel) (by decide +kernel)
set_option maxRecDepth 20000 in
theorem gX4_bounce_X0_lastTime : GoodIn wsX4_bounce (wsV RX4 122 RX0 yX0_lastTime wsX0_lastTime) := goodIn_app (goodIn_of _ (by decide +kernel)) ggX4_bounce_X0_lastTime
set_option maxRecDepth 20000 in
theorem ggX4_bounce_X0_tell : GoodIn wsX4_bounce wsX0_tell := goodIn_r _ [16, 12, 17, 18, 19, 20, 33, 34, 35, 36] (by decide +kernel) (by decide +kernel)
set_option maxRecDepth 20000 in
theorem gX4_bounce_X0_tell : GoodIn wsX4_bounce (wsV RX4 126 RX0 yX0_tell wsX0_tell) := goodIn_app (goodIn_of _ (by decide +kernel)) ggX4_bounce_X0_tell
theorem dX4_bounce_0 : decode cX4_bounce 0 = .ok (.lload_n 2, 1) := by decide +kernel
theorem dX4_bounce_1 : decode cX4_bounce 1 = .ok (.invokestatic 51, 3) := by decide +kernel
theorem dX4_bounce_4 : decode cX4_bounce 4 = .ok (.ifCond .ne 15, 3) := by decide +kernel
theorem dX4_bounce_7 : decode cX4_bounce 7 = .ok (.lload_n 2, 1) := by decide +kernel
theorem dX4_bounce_8 : decode cX4_bounce 8 = .ok (.aload_n 0, 1) := by decide +kernel
theorem dX4_bounce_9 : decode cX4_bounce 9 = .ok (.getfield 30, 3) := by decide +kernel
theorem dX4_bounce_12 : decode cX4_bounce 12 = .ok (.invokevirtual 122, 3) := by decide +kernel
theorem dX4_bounce_15 : decode cX4_bounce 15 = .ok (.lcmp, 1) := by decide +kernel
theorem dX4_bounce_16 : decode cX4_bounce 16 = .ok (.ifCond .ge 6, 3) := by decide +kernel
theorem dX4_bounce_19 : decode cX4_bounce 19 = .ok (.bipush (-2), 2) := by decide +kernel
theorem dX4_bounce_21 : decode cX4_bounce 21 = .ok (.ireturn, 1) := by decide +kernel
theorem dX4_bounce_22 : decode cX4_bounce 22 = .ok (.aload_n 0, 1) := by decide +kernel
theorem dX4_bounce_23 : decode cX4_bounce 23 = .ok (.getfield 30, 3) := by decide +kernel
theorem dX4_bounce_26 : decode cX4_bounce 26 = .ok (.iload_n 1, 1) := by decide +kernel
theorem dX4_bounce_27 : decode cX4_bounce 27 = .ok (.lload_n 2, 1) := by decide +kernel
theorem dX4_bounce_28 : decode cX4_bounce 28 = .ok (.invokevirtual 126, 3) := by decide +kernel
theorem dX4_bounce_31 : decode cX4_bounce 31 = .ok (.ifCond .eq 7, 3) := by decide +kernel
theorem dX4_bounce_34 : decode cX4_bounce 34 = .ok (.iconst 1, 1) := by decide +kernel
theorem dX4_bounce_35 : decode cX4_bounce 35 = .ok (.goto 4, 3) := by decide +kernel
theorem dX4_bounce_38 : decode cX4_bounce 38 = .ok (.iconst 0, 1) := by decide +kernel
theorem dX4_bounce_39 : decode cX4_bounce 39 = .ok (.ireturn, 1) := by decide +kernel
set_option maxRecDepth 20000 in
theorem ggX4_faults_X1_total : GoodIn wsX4_faults wsX1_total := goodIn_r _ [6, 7, 20, 21, 22] (by decide +kernel) (by decide +kernel)
set_option maxRecDepth 20000 in
theorem gX4_faults_X1_total : GoodIn wsX4_faults (wsV RX4 130 RX1 yX1_total wsX1_total) := goodIn_app (goodIn_of _ (by decide +kernel)) ggX4_faults_X1_total
theorem dX4_faults_0 : decode cX4_faults 0 = .ok (.aload_n 0, 1) := by decide +kernel
theorem dX4_faults_1 : decode cX4_faults 1 = .ok (.getfield 16, 3) := by decide +kernel
theorem dX4_faults_4 : decode cX4_faults 4 = .ok (.invokevirtual 130, 3) := by decide +kernel
theorem dX4_faults_7 : decode cX4_faults 7 = .ok (.ireturn, 1) := by decide +kernel
set_option maxRecDepth 20000 in
theorem ggX4_marked_X1_hasMark : GoodIn wsX4_marked wsX1_hasMark := goodIn_r _ [6, 7, 20, 21, 22] (by decide +kernel) (by decide +kernel)
set_option maxRecDepth 20000 in
theorem gX4_marked_X1_hasMark : GoodIn wsX4_marked (wsV RX4 133 RX1 yX1_hasMark wsX1_hasMark) := goodIn_app (goodIn_of _ (by decide +kernel)) ggX4_marked_X1_hasMark
theorem dX4_marked_0 : decode cX4_marked 0 = .ok (.aload_n 0, 1) := by decide +kernel
theorem dX4_marked_1 : decode cX4_marked 1 = .ok (.getfield 16, 3) := by decide +kernel
theorem dX4_marked_4 : decode cX4_marked 4 = .ok (.invokevirtual 133, 3) := by decide +kernel
theorem dX4_marked_7 : decode cX4_marked 7 = .ok (.ireturn, 1) := by decide +kernel
set_option maxRecDepth 20000 in
theorem ggX4_turn_X3_moveTo : GoodIn wsX4_turn wsX3_moveTo := goodIn_r _ [7, 8, 9, 10, 35, 36, 37] (by decide +kernel) (by decide +kernel)
set_option maxRecDepth 20000 in
theorem gX4_turn_X3_moveTo : GoodIn wsX4_turn (wsV RX4 137 RX3 yX3_moveTo wsX3_moveTo) := goodIn_app (goodIn_of _ (by decide +kernel)) ggX4_turn_X3_moveTo
set_option maxRecDepth 20000 in
theorem ggX4_turn_X1_add : GoodIn wsX4_turn wsX1_add := goodIn_r _ [15, 16, 17, 18, 38, 39, 40] (by decide +kernel) (by decide +kernel)
set_option maxRecDepth 20000 in
theorem gX4_turn_X1_add : GoodIn wsX4_turn (wsV RX4 141 RX1 yX1_add wsX1_add) := goodIn_app (goodIn_of _ (by decide +kernel)) ggX4_turn_X1_add
set_option maxRecDepth 20000 in
theorem ggX4_turn_X3_position : GoodIn wsX4_turn wsX3_position := goodIn_r _ [22, 10, 35, 36, 37] (by decide +kernel) (by decide +kernel)
set_option maxRecDepth 20000 in
theorem gX4_turn_X3_position : GoodIn wsX4_turn (wsV RX4 144 RX3 yX3_position wsX3_position) := goodIn_app (goodIn_of _ (by decide +kernel)) ggX4_turn_X3_position
theorem dX4_turn_0 : decode cX4_turn 0 = .ok (.aload_n 0, 1) := by decide +kernel
theorem dX4_turn_1 : decode cX4_turn 1 = .ok (.getfield 37, 3) := by decide +kernel
theorem dX4_turn_4 : decode cX4_turn 4 = .ok (.iload_n 1, 1) := by decide +kernel
theorem dX4_turn_5 : decode cX4_turn 5 = .ok (.iload_n 2, 1) := by decide +kernel
theorem dX4_turn_6 : decode cX4_turn 6 = .ok (.invokevirtual 137, 3) := by decide +kernel
theorem dX4_turn_9 : decode cX4_turn 9 = .ok (.ifCond .ne 10, 3) := by decide +kernel
theorem dX4_turn_12 : decode cX4_turn 12 = .ok (.aload_n 0, 1) := by decide +kernel
theorem dX4_turn_13 : decode cX4_turn 13 = .ok (.getfield 16, 3) := by decide +kernel
theorem dX4_turn_16 : decode cX4_turn 16 = .ok (.invokevirtual 141, 3) := by decide +kernel
theorem dX4_turn_19 : decode cX4_turn 19 = .ok (.aload_n 0, 1) := by decide +kernel
theorem dX4_turn_20 : decode cX4_turn 20 = .ok (.getfield 37, 3) := by decide +kernel
theorem dX4_turn_23 : decode cX4_turn 23 = .ok (.invokevirtual 144, 3) := by decide +kernel
theorem dX4_turn_26 : decode cX4_turn 26 = .ok (.ireturn, 1) := by decide +kernel
theorem dX4_isOutsideTime_0 : decode cX4_isOutsideTime 0 = .ok (.lload_n 0, 1) := by decide +kernel
theorem dX4_isOutsideTime_1 : decode cX4_isOutsideTime 1 = .ok (.lconst 0, 1) := by decide +kernel
theorem dX4_isOutsideTime_2 : decode cX4_isOutsideTime 2 = .ok (.lcmp, 1) := by decide +kernel
theorem dX4_isOutsideTime_3 : decode cX4_isOutsideTime 3 = .ok (.ifCond .lt 11, 3) := by decide +kernel
theorem dX4_isOutsideTime_6 : decode cX4_isOutsideTime 6 = .ok (.lload_n 0, 1) := by decide +kernel
theorem dX4_isOutsideTime_7 : decode cX4_isOutsideTime 7 = .ok (.ldc2_w 147, 3) := by decide +kernel
theorem dX4_isOutsideTime_10 : decode cX4_isOutsideTime 10 = .ok (.lcmp, 1) := by decide +kernel
theorem dX4_isOutsideTime_11 : decode cX4_isOutsideTime 11 = .ok (.ifCond .le 7, 3) := by decide +kernel
theorem dX4_isOutsideTime_14 : decode cX4_isOutsideTime 14 = .ok (.iconst 1, 1) := by decide +kernel
theorem dX4_isOutsideTime_15 : decode cX4_isOutsideTime 15 = .ok (.goto 4, 3) := by decide +kernel
theorem dX4_isOutsideTime_18 : decode cX4_isOutsideTime 18 = .ok (.iconst 0, 1) := by decide +kernel
theorem dX4_isOutsideTime_19 : decode cX4_isOutsideTime 19 = .ok (.ireturn, 1) := by decide +kernel
theorem dX4_hasFrame_0 : decode cX4_hasFrame 0 = .ok (.iload_n 1, 1) := by decide +kernel
theorem dX4_hasFrame_1 : decode cX4_hasFrame 1 = .ok (.ifCond .lt 24, 3) := by decide +kernel
theorem dX4_hasFrame_4 : decode cX4_hasFrame 4 = .ok (.iload_n 1, 1) := by decide +kernel
theorem dX4_hasFrame_5 : decode cX4_hasFrame 5 = .ok (.aload_n 0, 1) := by decide +kernel
theorem dX4_hasFrame_6 : decode cX4_hasFrame 6 = .ok (.getfield 69, 3) := by decide +kernel
theorem dX4_hasFrame_9 : decode cX4_hasFrame 9 = .ok (.if_icmp .ge 16, 3) := by decide +kernel
theorem dX4_hasFrame_12 : decode cX4_hasFrame 12 = .ok (.iload_n 1, 1) := by decide +kernel
theorem dX4_hasFrame_13 : decode cX4_hasFrame 13 = .ok (.aload_n 0, 1) := by decide +kernel
theorem dX4_hasFrame_14 : decode cX4_hasFrame 14 = .ok (.getfield 41, 3) := by decide +kernel
theorem dX4_hasFrame_17 : decode cX4_hasFrame 17 = .ok (.arraylength, 1) := by decide +kernel
theorem dX4_hasFrame_18 : decode cX4_hasFrame 18 = .ok (.if_icmp .ge 7, 3) := by decide +kernel
theorem dX4_hasFrame_21 : decode cX4_hasFrame 21 = .ok (.iconst 1, 1) := by decide +kernel
theorem dX4_hasFrame_22 : decode cX4_hasFrame 22 = .ok (.goto 4, 3) := by decide +kernel
theorem dX4_hasFrame_25 : decode cX4_hasFrame 25 = .ok (.iconst 0, 1) := by decide +kernel
theorem dX4_hasFrame_26 : decode cX4_hasFrame 26 = .ok (.ireturn, 1) := by decide +kernel
set_option maxRecDepth 20000 in
theorem ggX4_takeCalibration_X4_isTaken : GoodIn wsX4_takeCalibration wsX4_isTaken := goodIn_r _ [10, 11, 12, 4, 13, 14, 15, 16, 17, 18, 27, 28, 29, 30, 31, 32, 33, 34, 35, 36, 37, 38] (by decide +kernel) (by decide +kernel)
set_option maxRecDepth 20000 in
theorem gX4_takeCalibration_X4_isTaken : GoodIn wsX4_takeCalibration (wsV RX4 112 RX4 yX4_isTaken wsX4_isTaken) := goodIn_app (goodIn_of _ (by decide +kernel)) ggX4_takeCalibration_X4_isTaken
set_option maxRecDepth 20000 in
theorem ggX4_takeCalibration_X1_add : GoodIn wsX4_takeCalibration wsX1_add := goodIn_r _ [23, 24, 25, 26, 39, 40, 41] (by decide +kernel) (by decide +kernel)
set_option maxRecDepth 20000 in
theorem gX4_takeCalibration_X1_add : GoodIn wsX4_takeCalibration (wsV RX4 141 RX1 yX1_add wsX1_add) := goodIn_app (goodIn_of _ (by decide +kernel)) ggX4_takeCalibration_X1_add
theorem dX4_takeCalibration_0 : decode cX4_takeCalibration 0 = .ok (.aload_n 0, 1) := by decide +kernel
theorem dX4_takeCalibration_1 : decode cX4_takeCalibration 1 = .ok (.iconst 0, 1) := by decide +kernel
theorem dX4_takeCalibration_2 : decode cX4_takeCalibration 2 = .ok (.putfield 149, 3) := by decide +kernel
theorem dX4_takeCalibration_5 : decode cX4_takeCalibration 5 = .ok (.aload_n 0, 1) := by decide +kernel
theorem dX4_takeCalibration_6 : decode cX4_takeCalibration 6 = .ok (.iconst 0, 1) := by decide +kernel
theorem dX4_takeCalibration_7 : decode cX4_takeCalibration 7 = .ok (.putfield 66, 3) := by decide +kernel
theorem dX4_takeCalibration_10 : decode cX4_takeCalibration 10 = .ok (.aload_n 0, 1) := by decide +kernel
theorem dX4_takeCalibration_11 : decode cX4_takeCalibration 11 = .ok (.aload_n 0, 1) := by decide +kernel
theorem dX4_takeCalibration_12 : decode cX4_takeCalibration 12 = .ok (.lload_n 1, 1) := by decide +kernel
theorem dX4_takeCalibration_13 : decode cX4_takeCalibration 13 = .ok (.invokevirtual 112, 3) := by decide +kernel
theorem dX4_takeCalibration_16 : decode cX4_takeCalibration 16 = .ok (.putfield 55, 3) := by decide +kernel
theorem dX4_takeCalibration_19 : decode cX4_takeCalibration 19 = .ok (.aload_n 0, 1) := by decide +kernel
theorem dX4_takeCalibration_20 : decode cX4_takeCalibration 20 = .ok (.getfield 55, 3) := by decide +kernel
theorem dX4_takeCalibration_23 : decode cX4_takeCalibration 23 = .ok (.ifCond .eq 11, 3) := by decide +kernel
theorem dX4_takeCalibration_26 : decode cX4_takeCalibration 26 = .ok (.aload_n 0, 1) := by decide +kernel
theorem dX4_takeCalibration_27 : decode cX4_takeCalibration 27 = .ok (.lload_n 1, 1) := by decide +kernel
theorem dX4_takeCalibration_28 : decode cX4_takeCalibration 28 = .ok (.putfield 152, 3) := by decide +kernel
theorem dX4_takeCalibration_31 : decode cX4_takeCalibration 31 = .ok (.goto 10, 3) := by decide +kernel
theorem dX4_takeCalibration_34 : decode cX4_takeCalibration 34 = .ok (.aload_n 0, 1) := by decide +kernel
theorem dX4_takeCalibration_35 : decode cX4_takeCalibration 35 = .ok (.getfield 16, 3) := by decide +kernel
theorem dX4_takeCalibration_38 : decode cX4_takeCalibration 38 = .ok (.invokevirtual 141, 3) := by decide +kernel
theorem dX4_takeCalibration_41 : decode cX4_takeCalibration 41 = .ok (.return_, 1) := by decide +kernel
theorem dX4_isTaken_0 : decode cX4_isTaken 0 = .ok (.lload_n 1, 1) := by decide +kernel
theorem dX4_isTaken_1 : decode cX4_isTaken 1 = .ok (.ldc2_w 155, 3) := by decide +kernel
theorem dX4_isTaken_4 : decode cX4_isTaken 4 = .ok (.lcmp, 1) := by decide +kernel
theorem dX4_isTaken_5 : decode cX4_isTaken 5 = .ok (.ifCond .lt 11, 3) := by decide +kernel
theorem dX4_isTaken_8 : decode cX4_isTaken 8 = .ok (.lload_n 1, 1) := by decide +kernel
theorem dX4_isTaken_9 : decode cX4_isTaken 9 = .ok (.ldc2_w 115, 3) := by decide +kernel
theorem dX4_isTaken_12 : decode cX4_isTaken 12 = .ok (.lcmp, 1) := by decide +kernel
theorem dX4_isTaken_13 : decode cX4_isTaken 13 = .ok (.ifCond .le 5, 3) := by decide +kernel
theorem dX4_isTaken_16 : decode cX4_isTaken 16 = .ok (.iconst 0, 1) := by decide +kernel
theorem dX4_isTaken_17 : decode cX4_isTaken 17 = .ok (.ireturn, 1) := by decide +kernel
theorem dX4_isTaken_18 : decode cX4_isTaken 18 = .ok (.aload_n 0, 1) := by decide +kernel
theorem dX4_isTaken_19 : decode cX4_isTaken 19 = .ok (.getfield 152, 3) := by decide +kernel
theorem dX4_isTaken_22 : decode cX4_isTaken 22 = .ok (.lconst 0, 1) := by decide +kernel
theorem dX4_isTaken_23 : decode cX4_isTaken 23 = .ok (.lcmp, 1) := by decide +kernel
theorem dX4_isTaken_24 : decode cX4_isTaken 24 = .ok (.ifCond .eq 30, 3) := by decide +kernel
theorem dX4_isTaken_27 : decode cX4_isTaken 27 = .ok (.ldc2_w 157, 3) := by decide +kernel
theorem dX4_isTaken_30 : decode cX4_isTaken 30 = .ok (.lload_n 1, 1) := by decide +kernel
theorem dX4_isTaken_31 : decode cX4_isTaken 31 = .ok (.aload_n 0, 1) := by decide +kernel
theorem dX4_isTaken_32 : decode cX4_isTaken 32 = .ok (.getfield 152, 3) := by decide +kernel
theorem dX4_isTaken_35 : decode cX4_isTaken 35 = .ok (.lsub, 1) := by decide +kernel
theorem dX4_isTaken_36 : decode cX4_isTaken 36 = .ok (.invokestatic 159, 3) := by decide +kernel
theorem dX4_isTaken_39 : decode cX4_isTaken 39 = .ok (.lmul, 1) := by decide +kernel
theorem dX4_isTaken_40 : decode cX4_isTaken 40 = .ok (.aload_n 0, 1) := by decide +kernel
theorem dX4_isTaken_41 : decode cX4_isTaken 41 = .ok (.getfield 9, 3) := by decide +kernel
theorem dX4_isTaken_44 : decode cX4_isTaken 44 = .ok (.i2l, 1) := by decide +kernel
theorem dX4_isTaken_45 : decode cX4_isTaken 45 = .ok (.aload_n 0, 1) := by decide +kernel
theorem dX4_isTaken_46 : decode cX4_isTaken 46 = .ok (.getfield 152, 3) := by decide +kernel

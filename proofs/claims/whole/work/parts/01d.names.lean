theorem dX4_isTaken_49 : decode cX4_isTaken 49 = .ok (.lmul, 1) := by decide +kernel
theorem dX4_isTaken_50 : decode cX4_isTaken 50 = .ok (.lcmp, 1) := by decide +kernel
theorem dX4_isTaken_51 : decode cX4_isTaken 51 = .ok (.ifCond .gt 7, 3) := by decide +kernel
theorem dX4_isTaken_54 : decode cX4_isTaken 54 = .ok (.iconst 1, 1) := by decide +kernel
theorem dX4_isTaken_55 : decode cX4_isTaken 55 = .ok (.goto 4, 3) := by decide +kernel
theorem dX4_isTaken_58 : decode cX4_isTaken 58 = .ok (.iconst 0, 1) := by decide +kernel
theorem dX4_isTaken_59 : decode cX4_isTaken 59 = .ok (.ireturn, 1) := by decide +kernel
set_option maxRecDepth 20000 in
theorem ggX4_takeNibble_X4_nibbleOf : GoodIn wsX4_takeNibble wsX4_nibbleOf := goodIn_r _ [9, 10, 11, 12, 13] (by decide +kernel) (by decide +kernel)
set_option maxRecDepth 20000 in
theorem gX4_takeNibble_X4_nibbleOf : GoodIn wsX4_takeNibble (va_wsS RX4 165 yX4_nibbleOf wsX4_nibbleOf) := goodIn_app (goodIn_of _ (by decide +kernel)) ggX4_takeNibble_X4_nibbleOf
set_option maxRecDepth 20000 in
theorem ggX4_takeNibble_X1_add : GoodIn wsX4_takeNibble wsX1_add := goodIn_r _ [18, 19, 20, 21, 84, 85, 86] (by decide +kernel) (by decide +kernel)
set_option maxRecDepth 20000 in
theorem gX4_takeNibble_X1_add : GoodIn wsX4_takeNibble (wsV RX4 141 RX1 yX1_add wsX1_add) := goodIn_app (goodIn_of _ (by decide +kernel)) ggX4_takeNibble_X1_add
set_option maxRecDepth 20000 in
theorem ggX4_takeNibble_X4_finishFrame : GoodIn wsX4_takeNibble wsX4_finishFrame := goodIn_r _ [25, 26, 4, 27, 28, 29, 8, 30, 31, 32, 33, 34, 35, 36, 37, 38, 39, 40, 41, 42, 43, 44, 45, 46, 47, 48, 49, 50, 51, 52, 53, 14, 15, 16, 17, 18, 19, 20, 21, 54, 55, 56, 57, 58, 59, 60, 61, 62, 63, 64, 65, 66, 67, 68, 69, 70, 71, 72, 73, 74, 75, 76, 77, 78, 79, 80, 81, 82, 83, 87, 88, 89, 90, 84, 85, 86] (by decide +kernel) (by decide +kernel)
set_option maxRecDepth 20000 in
theorem gX4_takeNibble_X4_finishFrame : GoodIn wsX4_takeNibble (wsV RX4 169 RX4 yX4_finishFrame wsX4_finishFrame) := goodIn_app (goodIn_of _ (by decide +kernel)) ggX4_takeNibble_X4_finishFrame
theorem dX4_takeNibble_0 : decode cX4_takeNibble 0 = .ok (.lload_n 1, 1) := by decide +kernel
theorem dX4_takeNibble_1 : decode cX4_takeNibble 1 = .ok (.aload_n 0, 1) := by decide +kernel
theorem dX4_takeNibble_2 : decode cX4_takeNibble 2 = .ok (.getfield 152, 3) := by decide +kernel
theorem dX4_takeNibble_5 : decode cX4_takeNibble 5 = .ok (.invokestatic 165, 3) := by decide +kernel
theorem dX4_takeNibble_8 : decode cX4_takeNibble 8 = .ok (.istore_n 3, 1) := by decide +kernel
theorem dX4_takeNibble_9 : decode cX4_takeNibble 9 = .ok (.iload_n 3, 1) := by decide +kernel
theorem dX4_takeNibble_10 : decode cX4_takeNibble 10 = .ok (.iconst (-1), 1) := by decide +kernel
theorem dX4_takeNibble_11 : decode cX4_takeNibble 11 = .ok (.if_icmp .ne 21, 3) := by decide +kernel
theorem dX4_takeNibble_14 : decode cX4_takeNibble 14 = .ok (.aload_n 0, 1) := by decide +kernel
theorem dX4_takeNibble_15 : decode cX4_takeNibble 15 = .ok (.iconst 0, 1) := by decide +kernel
theorem dX4_takeNibble_16 : decode cX4_takeNibble 16 = .ok (.putfield 55, 3) := by decide +kernel
theorem dX4_takeNibble_19 : decode cX4_takeNibble 19 = .ok (.aload_n 0, 1) := by decide +kernel
theorem dX4_takeNibble_20 : decode cX4_takeNibble 20 = .ok (.iconst 0, 1) := by decide +kernel
theorem dX4_takeNibble_21 : decode cX4_takeNibble 21 = .ok (.putfield 66, 3) := by decide +kernel
theorem dX4_takeNibble_24 : decode cX4_takeNibble 24 = .ok (.aload_n 0, 1) := by decide +kernel
theorem dX4_takeNibble_25 : decode cX4_takeNibble 25 = .ok (.getfield 16, 3) := by decide +kernel
theorem dX4_takeNibble_28 : decode cX4_takeNibble 28 = .ok (.invokevirtual 141, 3) := by decide +kernel
theorem dX4_takeNibble_31 : decode cX4_takeNibble 31 = .ok (.return_, 1) := by decide +kernel
theorem dX4_takeNibble_32 : decode cX4_takeNibble 32 = .ok (.aload_n 0, 1) := by decide +kernel
theorem dX4_takeNibble_33 : decode cX4_takeNibble 33 = .ok (.aload_n 0, 1) := by decide +kernel
theorem dX4_takeNibble_34 : decode cX4_takeNibble 34 = .ok (.getfield 149, 3) := by decide +kernel
theorem dX4_takeNibble_37 : decode cX4_takeNibble 37 = .ok (.iconst 4, 1) := by decide +kernel
theorem dX4_takeNibble_38 : decode cX4_takeNibble 38 = .ok (.ishl, 1) := by decide +kernel
theorem dX4_takeNibble_39 : decode cX4_takeNibble 39 = .ok (.iload_n 3, 1) := by decide +kernel
theorem dX4_takeNibble_40 : decode cX4_takeNibble 40 = .ok (.ior, 1) := by decide +kernel
theorem dX4_takeNibble_41 : decode cX4_takeNibble 41 = .ok (.putfield 149, 3) := by decide +kernel
theorem dX4_takeNibble_44 : decode cX4_takeNibble 44 = .ok (.aload_n 0, 1) := by decide +kernel
theorem dX4_takeNibble_45 : decode cX4_takeNibble 45 = .ok (.dup, 1) := by decide +kernel
theorem dX4_takeNibble_46 : decode cX4_takeNibble 46 = .ok (.getfield 66, 3) := by decide +kernel
theorem dX4_takeNibble_49 : decode cX4_takeNibble 49 = .ok (.iconst 1, 1) := by decide +kernel
theorem dX4_takeNibble_50 : decode cX4_takeNibble 50 = .ok (.iadd, 1) := by decide +kernel
theorem dX4_takeNibble_51 : decode cX4_takeNibble 51 = .ok (.putfield 66, 3) := by decide +kernel
theorem dX4_takeNibble_54 : decode cX4_takeNibble 54 = .ok (.aload_n 0, 1) := by decide +kernel
theorem dX4_takeNibble_55 : decode cX4_takeNibble 55 = .ok (.getfield 66, 3) := by decide +kernel
theorem dX4_takeNibble_58 : decode cX4_takeNibble 58 = .ok (.bipush 8, 2) := by decide +kernel
theorem dX4_takeNibble_60 : decode cX4_takeNibble 60 = .ok (.if_icmp .ne 16, 3) := by decide +kernel
theorem dX4_takeNibble_63 : decode cX4_takeNibble 63 = .ok (.aload_n 0, 1) := by decide +kernel
theorem dX4_takeNibble_64 : decode cX4_takeNibble 64 = .ok (.iconst 0, 1) := by decide +kernel
theorem dX4_takeNibble_65 : decode cX4_takeNibble 65 = .ok (.putfield 55, 3) := by decide +kernel
theorem dX4_takeNibble_68 : decode cX4_takeNibble 68 = .ok (.aload_n 0, 1) := by decide +kernel
theorem dX4_takeNibble_69 : decode cX4_takeNibble 69 = .ok (.aload_n 0, 1) := by decide +kernel
theorem dX4_takeNibble_70 : decode cX4_takeNibble 70 = .ok (.getfield 149, 3) := by decide +kernel
theorem dX4_takeNibble_73 : decode cX4_takeNibble 73 = .ok (.invokevirtual 169, 3) := by decide +kernel
theorem dX4_takeNibble_76 : decode cX4_takeNibble 76 = .ok (.return_, 1) := by decide +kernel
theorem dX4_nibbleOf_0 : decode cX4_nibbleOf 0 = .ok (.lload_n 2, 1) := by decide +kernel
theorem dX4_nibbleOf_1 : decode cX4_nibbleOf 1 = .ok (.lconst 0, 1) := by decide +kernel
theorem dX4_nibbleOf_2 : decode cX4_nibbleOf 2 = .ok (.lcmp, 1) := by decide +kernel
theorem dX4_nibbleOf_3 : decode cX4_nibbleOf 3 = .ok (.ifCond .le 9, 3) := by decide +kernel
theorem dX4_nibbleOf_6 : decode cX4_nibbleOf 6 = .ok (.lload_n 0, 1) := by decide +kernel
theorem dX4_nibbleOf_7 : decode cX4_nibbleOf 7 = .ok (.lload_n 2, 1) := by decide +kernel
theorem dX4_nibbleOf_8 : decode cX4_nibbleOf 8 = .ok (.lcmp, 1) := by decide +kernel
theorem dX4_nibbleOf_9 : decode cX4_nibbleOf 9 = .ok (.ifCond .lt 5, 3) := by decide +kernel
theorem dX4_nibbleOf_12 : decode cX4_nibbleOf 12 = .ok (.iconst (-1), 1) := by decide +kernel
theorem dX4_nibbleOf_13 : decode cX4_nibbleOf 13 = .ok (.ireturn, 1) := by decide +kernel
theorem dX4_nibbleOf_14 : decode cX4_nibbleOf 14 = .ok (.ldc2_w 155, 3) := by decide +kernel
theorem dX4_nibbleOf_17 : decode cX4_nibbleOf 17 = .ok (.lload_n 0, 1) := by decide +kernel
theorem dX4_nibbleOf_18 : decode cX4_nibbleOf 18 = .ok (.lmul, 1) := by decide +kernel
theorem dX4_nibbleOf_19 : decode cX4_nibbleOf 19 = .ok (.lload_n 2, 1) := by decide +kernel
theorem dX4_nibbleOf_20 : decode cX4_nibbleOf 20 = .ok (.ldc2_w 173, 3) := by decide +kernel
theorem dX4_nibbleOf_23 : decode cX4_nibbleOf 23 = .ok (.ldiv, 1) := by decide +kernel
theorem dX4_nibbleOf_24 : decode cX4_nibbleOf 24 = .ok (.ladd, 1) := by decide +kernel
theorem dX4_nibbleOf_25 : decode cX4_nibbleOf 25 = .ok (.lload_n 2, 1) := by decide +kernel
theorem dX4_nibbleOf_26 : decode cX4_nibbleOf 26 = .ok (.ldiv, 1) := by decide +kernel
theorem dX4_nibbleOf_27 : decode cX4_nibbleOf 27 = .ok (.lstore 4, 2) := by decide +kernel
theorem dX4_nibbleOf_29 : decode cX4_nibbleOf 29 = .ok (.lload 4, 2) := by decide +kernel
theorem dX4_nibbleOf_31 : decode cX4_nibbleOf 31 = .ok (.ldc2_w 175, 3) := by decide +kernel
theorem dX4_nibbleOf_34 : decode cX4_nibbleOf 34 = .ok (.lsub, 1) := by decide +kernel
theorem dX4_nibbleOf_35 : decode cX4_nibbleOf 35 = .ok (.lstore 6, 2) := by decide +kernel
theorem dX4_nibbleOf_37 : decode cX4_nibbleOf 37 = .ok (.lload 6, 2) := by decide +kernel
theorem dX4_nibbleOf_39 : decode cX4_nibbleOf 39 = .ok (.lconst 0, 1) := by decide +kernel
theorem dX4_nibbleOf_40 : decode cX4_nibbleOf 40 = .ok (.lcmp, 1) := by decide +kernel
theorem dX4_nibbleOf_41 : decode cX4_nibbleOf 41 = .ok (.ifCond .lt 12, 3) := by decide +kernel
theorem dX4_nibbleOf_44 : decode cX4_nibbleOf 44 = .ok (.lload 6, 2) := by decide +kernel
theorem dX4_nibbleOf_46 : decode cX4_nibbleOf 46 = .ok (.ldc2_w 177, 3) := by decide +kernel
theorem dX4_nibbleOf_49 : decode cX4_nibbleOf 49 = .ok (.lcmp, 1) := by decide +kernel
theorem dX4_nibbleOf_50 : decode cX4_nibbleOf 50 = .ok (.ifCond .le 7, 3) := by decide +kernel
theorem dX4_nibbleOf_53 : decode cX4_nibbleOf 53 = .ok (.iconst (-1), 1) := by decide +kernel
theorem dX4_nibbleOf_54 : decode cX4_nibbleOf 54 = .ok (.goto 6, 3) := by decide +kernel
theorem dX4_nibbleOf_57 : decode cX4_nibbleOf 57 = .ok (.lload 6, 2) := by decide +kernel
theorem dX4_nibbleOf_59 : decode cX4_nibbleOf 59 = .ok (.l2i, 1) := by decide +kernel
theorem dX4_nibbleOf_60 : decode cX4_nibbleOf 60 = .ok (.ireturn, 1) := by decide +kernel
set_option maxRecDepth 20000 in
theorem ggX4_finishFrame_X4_keepFrame : GoodIn wsX4_finishFrame wsX4_keepFrame := goodIn_r _ [7, 8, 9, 57, 58, 59, 60, 61, 62, 63, 64, 65, 66, 67, 68] (by decide +kernel) (by decide +kernel)
set_option maxRecDepth 20000 in
theorem gX4_finishFrame_X4_keepFrame : GoodIn wsX4_finishFrame (wsV RX4 179 RX4 yX4_keepFrame wsX4_keepFrame) := goodIn_app (goodIn_of _ (by decide +kernel)) ggX4_finishFrame_X4_keepFrame
set_option maxRecDepth 20000 in
theorem ggX4_finishFrame_X4_isRight : GoodIn wsX4_finishFrame wsX4_isRight := goodIn_r _ [12, 13, 14, 6, 15, 16, 17, 18, 19, 20, 21, 22, 23] (by decide +kernel) (by decide +kernel)
set_option maxRecDepth 20000 in
theorem gX4_finishFrame_X4_isRight : GoodIn wsX4_finishFrame (va_wsS RX4 104 yX4_isRight wsX4_isRight) := goodIn_app (goodIn_of _ (by decide +kernel)) ggX4_finishFrame_X4_isRight
set_option maxRecDepth 20000 in
theorem ggX4_finishFrame_X2_dropRow : GoodIn wsX4_finishFrame wsX2_dropRow := goodIn_r _ [28, 29, 30, 69, 70, 71, 72] (by decide +kernel) (by decide +kernel)
set_option maxRecDepth 20000 in
theorem gX4_finishFrame_X2_dropRow : GoodIn wsX4_finishFrame (wsV RX4 182 RX2 yX2_dropRow wsX2_dropRow) := goodIn_app (goodIn_of _ (by decide +kernel)) ggX4_finishFrame_X2_dropRow
set_option maxRecDepth 20000 in
theorem ggX4_finishFrame_X1_add : GoodIn wsX4_finishFrame wsX1_add := goodIn_r _ [35, 36, 37, 38, 73, 74, 75] (by decide +kernel) (by decide +kernel)
set_option maxRecDepth 20000 in
theorem gX4_finishFrame_X1_add : GoodIn wsX4_finishFrame (wsV RX4 141 RX1 yX1_add wsX1_add) := goodIn_app (goodIn_of _ (by decide +kernel)) ggX4_finishFrame_X1_add
set_option maxRecDepth 20000 in
theorem ggX4_finishFrame_X1_endStreak : GoodIn wsX4_finishFrame wsX1_endStreak := goodIn_r _ [42, 37, 73, 74, 75] (by decide +kernel) (by decide +kernel)
set_option maxRecDepth 20000 in
theorem gX4_finishFrame_X1_endStreak : GoodIn wsX4_finishFrame (wsV RX4 185 RX1 yX1_endStreak wsX1_endStreak) := goodIn_app (goodIn_of _ (by decide +kernel)) ggX4_finishFrame_X1_endStreak
set_option maxRecDepth 20000 in
theorem ggX4_finishFrame_X4_statusOf : GoodIn wsX4_finishFrame wsX4_statusOf := goodIn_r _ [45, 21, 22, 6, 23] (by decide +kernel) (by decide +kernel)
set_option maxRecDepth 20000 in
theorem gX4_finishFrame_X4_statusOf : GoodIn wsX4_finishFrame (va_wsS RX4 98 yX4_statusOf wsX4_statusOf) := goodIn_app (goodIn_of _ (by decide +kernel)) ggX4_finishFrame_X4_statusOf
set_option maxRecDepth 20000 in
theorem ggX4_finishFrame_X2_take : GoodIn wsX4_finishFrame wsX2_take := goodIn_r _ [49, 30, 29, 50, 25, 26, 27, 28, 51, 52, 53, 54, 55, 56, 18, 6, 19, 20, 21, 22, 23, 69, 70, 71, 72] (by decide +kernel) (by decide +kernel)
set_option maxRecDepth 20000 in
theorem gX4_finishFrame_X2_take : GoodIn wsX4_finishFrame (wsV RX4 188 RX2 yX2_take wsX2_take) := goodIn_app (goodIn_of _ (by decide +kernel)) ggX4_finishFrame_X2_take
theorem dX4_finishFrame_0 : decode cX4_finishFrame 0 = .ok (.aload_n 0, 1) := by decide +kernel
theorem dX4_finishFrame_1 : decode cX4_finishFrame 1 = .ok (.iload_n 1, 1) := by decide +kernel
theorem dX4_finishFrame_2 : decode cX4_finishFrame 2 = .ok (.invokevirtual 179, 3) := by decide +kernel
theorem dX4_finishFrame_5 : decode cX4_finishFrame 5 = .ok (.iload_n 1, 1) := by decide +kernel
theorem dX4_finishFrame_6 : decode cX4_finishFrame 6 = .ok (.invokestatic 104, 3) := by decide +kernel
theorem dX4_finishFrame_9 : decode cX4_finishFrame 9 = .ok (.ifCond .ne 18, 3) := by decide +kernel
theorem dX4_finishFrame_12 : decode cX4_finishFrame 12 = .ok (.aload_n 0, 1) := by decide +kernel
theorem dX4_finishFrame_13 : decode cX4_finishFrame 13 = .ok (.getfield 23, 3) := by decide +kernel
theorem dX4_finishFrame_16 : decode cX4_finishFrame 16 = .ok (.invokevirtual 182, 3) := by decide +kernel
theorem dX4_finishFrame_19 : decode cX4_finishFrame 19 = .ok (.aload_n 0, 1) := by decide +kernel
theorem dX4_finishFrame_20 : decode cX4_finishFrame 20 = .ok (.getfield 16, 3) := by decide +kernel
theorem dX4_finishFrame_23 : decode cX4_finishFrame 23 = .ok (.invokevirtual 141, 3) := by decide +kernel
theorem dX4_finishFrame_26 : decode cX4_finishFrame 26 = .ok (.return_, 1) := by decide +kernel
theorem dX4_finishFrame_27 : decode cX4_finishFrame 27 = .ok (.aload_n 0, 1) := by decide +kernel
theorem dX4_finishFrame_28 : decode cX4_finishFrame 28 = .ok (.getfield 16, 3) := by decide +kernel
theorem dX4_finishFrame_31 : decode cX4_finishFrame 31 = .ok (.invokevirtual 185, 3) := by decide +kernel
theorem dX4_finishFrame_34 : decode cX4_finishFrame 34 = .ok (.aload_n 0, 1) := by decide +kernel
theorem dX4_finishFrame_35 : decode cX4_finishFrame 35 = .ok (.getfield 23, 3) := by decide +kernel
theorem dX4_finishFrame_38 : decode cX4_finishFrame 38 = .ok (.iload_n 1, 1) := by decide +kernel
theorem dX4_finishFrame_39 : decode cX4_finishFrame 39 = .ok (.invokestatic 98, 3) := by decide +kernel
theorem dX4_finishFrame_42 : decode cX4_finishFrame 42 = .ok (.invokevirtual 188, 3) := by decide +kernel
theorem dX4_finishFrame_45 : decode cX4_finishFrame 45 = .ok (.ifCond .ne 10, 3) := by decide +kernel
theorem dX4_finishFrame_48 : decode cX4_finishFrame 48 = .ok (.aload_n 0, 1) := by decide +kernel
theorem dX4_finishFrame_49 : decode cX4_finishFrame 49 = .ok (.getfield 16, 3) := by decide +kernel
theorem dX4_finishFrame_52 : decode cX4_finishFrame 52 = .ok (.invokevirtual 141, 3) := by decide +kernel
theorem dX4_finishFrame_55 : decode cX4_finishFrame 55 = .ok (.return_, 1) := by decide +kernel
theorem dX4_keepFrame_0 : decode cX4_keepFrame 0 = .ok (.aload_n 0, 1) := by decide +kernel
theorem dX4_keepFrame_1 : decode cX4_keepFrame 1 = .ok (.getfield 69, 3) := by decide +kernel
theorem dX4_keepFrame_4 : decode cX4_keepFrame 4 = .ok (.aload_n 0, 1) := by decide +kernel
theorem dX4_keepFrame_5 : decode cX4_keepFrame 5 = .ok (.getfield 41, 3) := by decide +kernel
theorem dX4_keepFrame_8 : decode cX4_keepFrame 8 = .ok (.arraylength, 1) := by decide +kernel
theorem dX4_keepFrame_9 : decode cX4_keepFrame 9 = .ok (.if_icmp .ge 23, 3) := by decide +kernel
theorem dX4_keepFrame_12 : decode cX4_keepFrame 12 = .ok (.aload_n 0, 1) := by decide +kernel
theorem dX4_keepFrame_13 : decode cX4_keepFrame 13 = .ok (.getfield 41, 3) := by decide +kernel
theorem dX4_keepFrame_16 : decode cX4_keepFrame 16 = .ok (.aload_n 0, 1) := by decide +kernel
theorem dX4_keepFrame_17 : decode cX4_keepFrame 17 = .ok (.getfield 69, 3) := by decide +kernel
theorem dX4_keepFrame_20 : decode cX4_keepFrame 20 = .ok (.iload_n 1, 1) := by decide +kernel
theorem dX4_keepFrame_21 : decode cX4_keepFrame 21 = .ok (.iastore, 1) := by decide +kernel
theorem dX4_keepFrame_22 : decode cX4_keepFrame 22 = .ok (.aload_n 0, 1) := by decide +kernel
theorem dX4_keepFrame_23 : decode cX4_keepFrame 23 = .ok (.dup, 1) := by decide +kernel
theorem dX4_keepFrame_24 : decode cX4_keepFrame 24 = .ok (.getfield 69, 3) := by decide +kernel
theorem dX4_keepFrame_27 : decode cX4_keepFrame 27 = .ok (.iconst 1, 1) := by decide +kernel
theorem dX4_keepFrame_28 : decode cX4_keepFrame 28 = .ok (.iadd, 1) := by decide +kernel
theorem dX4_keepFrame_29 : decode cX4_keepFrame 29 = .ok (.putfield 69, 3) := by decide +kernel
theorem dX4_keepFrame_32 : decode cX4_keepFrame 32 = .ok (.return_, 1) := by decide +kernel
set_option maxRecDepth 20000 in
theorem ggX4_statusOf_X4_nibbleAt : GoodIn wsX4_statusOf wsX4_nibbleAt := goodIn_r _ [4] (by decide +kernel) (by decide +kernel)
set_option maxRecDepth 20000 in
theorem gX4_statusOf_X4_nibbleAt : GoodIn wsX4_statusOf (va_wsS RX4 83 yX4_nibbleAt wsX4_nibbleAt) := goodIn_app (goodIn_of _ (by decide +kernel)) ggX4_statusOf_X4_nibbleAt
theorem dX4_statusOf_0 : decode cX4_statusOf 0 = .ok (.iload_n 0, 1) := by decide +kernel
theorem dX4_statusOf_1 : decode cX4_statusOf 1 = .ok (.bipush 7, 2) := by decide +kernel
theorem dX4_statusOf_3 : decode cX4_statusOf 3 = .ok (.invokestatic 83, 3) := by decide +kernel
theorem dX4_statusOf_6 : decode cX4_statusOf 6 = .ok (.ireturn, 1) := by decide +kernel
theorem dX4_dataOf_0 : decode cX4_dataOf 0 = .ok (.iload_n 0, 1) := by decide +kernel
theorem dX4_dataOf_1 : decode cX4_dataOf 1 = .ok (.iconst 4, 1) := by decide +kernel
theorem dX4_dataOf_2 : decode cX4_dataOf 2 = .ok (.iushr, 1) := by decide +kernel
theorem dX4_dataOf_3 : decode cX4_dataOf 3 = .ok (.ldc 191, 2) := by decide +kernel
theorem dX4_dataOf_5 : decode cX4_dataOf 5 = .ok (.iand, 1) := by decide +kernel
theorem dX4_dataOf_6 : decode cX4_dataOf 6 = .ok (.ireturn, 1) := by decide +kernel
set_option maxRecDepth 20000 in
theorem ggX4_isRight_X4_dataOf : GoodIn wsX4_isRight wsX4_dataOf := goodIn_r _ [4, 5] (by decide +kernel) (by decide +kernel)
set_option maxRecDepth 20000 in
theorem gX4_isRight_X4_dataOf : GoodIn wsX4_isRight (va_wsS RX4 101 yX4_dataOf wsX4_dataOf) := goodIn_app (goodIn_of _ (by decide +kernel)) ggX4_isRight_X4_dataOf
set_option maxRecDepth 20000 in
theorem ggX4_isRight_X4_checking : GoodIn wsX4_isRight wsX4_checking := goodIn_r _ [8, 9, 10, 11, 3, 12] (by decide +kernel) (by decide +kernel)
set_option maxRecDepth 20000 in
theorem gX4_isRight_X4_checking : GoodIn wsX4_isRight (va_wsS RX4 87 yX4_checking wsX4_checking) := goodIn_app (goodIn_of _ (by decide +kernel)) ggX4_isRight_X4_checking
set_option maxRecDepth 20000 in
theorem ggX4_isRight_X4_nibbleAt : GoodIn wsX4_isRight wsX4_nibbleAt := goodIn_r _ [12] (by decide +kernel) (by decide +kernel)
set_option maxRecDepth 20000 in
theorem gX4_isRight_X4_nibbleAt : GoodIn wsX4_isRight (va_wsS RX4 83 yX4_nibbleAt wsX4_nibbleAt) := goodIn_app (goodIn_of _ (by decide +kernel)) ggX4_isRight_X4_nibbleAt
theorem dX4_isRight_0 : decode cX4_isRight 0 = .ok (.iload_n 0, 1) := by decide +kernel
theorem dX4_isRight_1 : decode cX4_isRight 1 = .ok (.invokestatic 101, 3) := by decide +kernel
theorem dX4_isRight_4 : decode cX4_isRight 4 = .ok (.bipush 6, 2) := by decide +kernel
theorem dX4_isRight_6 : decode cX4_isRight 6 = .ok (.invokestatic 87, 3) := by decide +kernel
theorem dX4_isRight_9 : decode cX4_isRight 9 = .ok (.iload_n 0, 1) := by decide +kernel
theorem dX4_isRight_10 : decode cX4_isRight 10 = .ok (.iconst 0, 1) := by decide +kernel
theorem dX4_isRight_11 : decode cX4_isRight 11 = .ok (.invokestatic 83, 3) := by decide +kernel
theorem dX4_isRight_14 : decode cX4_isRight 14 = .ok (.if_icmp .ne 7, 3) := by decide +kernel
theorem dX4_isRight_17 : decode cX4_isRight 17 = .ok (.iconst 1, 1) := by decide +kernel
theorem dX4_isRight_18 : decode cX4_isRight 18 = .ok (.goto 4, 3) := by decide +kernel
theorem dX4_isRight_21 : decode cX4_isRight 21 = .ok (.iconst 0, 1) := by decide +kernel
theorem dX4_isRight_22 : decode cX4_isRight 22 = .ok (.ireturn, 1) := by decide +kernel
theorem dX4_nibbleAt_0 : decode cX4_nibbleAt 0 = .ok (.iload_n 0, 1) := by decide +kernel
theorem dX4_nibbleAt_1 : decode cX4_nibbleAt 1 = .ok (.iconst 4, 1) := by decide +kernel
theorem dX4_nibbleAt_2 : decode cX4_nibbleAt 2 = .ok (.iload_n 1, 1) := by decide +kernel
theorem dX4_nibbleAt_3 : decode cX4_nibbleAt 3 = .ok (.imul, 1) := by decide +kernel
theorem dX4_nibbleAt_4 : decode cX4_nibbleAt 4 = .ok (.iushr, 1) := by decide +kernel
theorem dX4_nibbleAt_5 : decode cX4_nibbleAt 5 = .ok (.bipush 15, 2) := by decide +kernel
theorem dX4_nibbleAt_7 : decode cX4_nibbleAt 7 = .ok (.iand, 1) := by decide +kernel
theorem dX4_nibbleAt_8 : decode cX4_nibbleAt 8 = .ok (.ireturn, 1) := by decide +kernel
set_option maxRecDepth 20000 in
theorem ggX4_checking_X4_nibbleAt : GoodIn wsX4_checking wsX4_nibbleAt := goodIn_r _ [5] (by decide +kernel) (by decide +kernel)
set_option maxRecDepth 20000 in
theorem gX4_checking_X4_nibbleAt : GoodIn wsX4_checking (va_wsS RX4 83 yX4_nibbleAt wsX4_nibbleAt) := goodIn_app (goodIn_of _ (by decide +kernel)) ggX4_checking_X4_nibbleAt
theorem dX4_checking_0 : decode cX4_checking 0 = .ok (.iconst 5, 1) := by decide +kernel
theorem dX4_checking_1 : decode cX4_checking 1 = .ok (.istore_n 2, 1) := by decide +kernel
theorem dX4_checking_2 : decode cX4_checking 2 = .ok (.iload_n 1, 1) := by decide +kernel
theorem dX4_checking_3 : decode cX4_checking 3 = .ok (.iconst 1, 1) := by decide +kernel
theorem dX4_checking_4 : decode cX4_checking 4 = .ok (.isub, 1) := by decide +kernel
theorem dX4_checking_5 : decode cX4_checking 5 = .ok (.istore_n 3, 1) := by decide +kernel
theorem dX4_checking_6 : decode cX4_checking 6 = .ok (.iload_n 3, 1) := by decide +kernel
theorem dX4_checking_7 : decode cX4_checking 7 = .ok (.ifCond .lt 24, 3) := by decide +kernel
theorem dX4_checking_10 : decode cX4_checking 10 = .ok (.getstatic 192, 3) := by decide +kernel
theorem dX4_checking_13 : decode cX4_checking 13 = .ok (.iload_n 2, 1) := by decide +kernel
theorem dX4_checking_14 : decode cX4_checking 14 = .ok (.bipush 15, 2) := by decide +kernel
theorem dX4_checking_16 : decode cX4_checking 16 = .ok (.iand, 1) := by decide +kernel
theorem dX4_checking_17 : decode cX4_checking 17 = .ok (.iaload, 1) := by decide +kernel
theorem dX4_checking_18 : decode cX4_checking 18 = .ok (.iload_n 0, 1) := by decide +kernel
theorem dX4_checking_19 : decode cX4_checking 19 = .ok (.iload_n 3, 1) := by decide +kernel
theorem dX4_checking_20 : decode cX4_checking 20 = .ok (.invokestatic 83, 3) := by decide +kernel
theorem dX4_checking_23 : decode cX4_checking 23 = .ok (.ixor, 1) := by decide +kernel
theorem dX4_checking_24 : decode cX4_checking 24 = .ok (.istore_n 2, 1) := by decide +kernel
theorem dX4_checking_25 : decode cX4_checking 25 = .ok (.iinc 3 (-1), 3) := by decide +kernel
theorem dX4_checking_28 : decode cX4_checking 28 = .ok (.goto (-22), 3) := by decide +kernel
theorem dX4_checking_31 : decode cX4_checking 31 = .ok (.getstatic 192, 3) := by decide +kernel
theorem dX4_checking_34 : decode cX4_checking 34 = .ok (.iload_n 2, 1) := by decide +kernel
theorem dX4_checking_35 : decode cX4_checking 35 = .ok (.bipush 15, 2) := by decide +kernel
theorem dX4_checking_37 : decode cX4_checking 37 = .ok (.iand, 1) := by decide +kernel
theorem dX4_checking_38 : decode cX4_checking 38 = .ok (.iaload, 1) := by decide +kernel
theorem dX4_checking_39 : decode cX4_checking 39 = .ok (.ireturn, 1) := by decide +kernel
theorem dX5_init_0 : decode cX5_init 0 = .ok (.aload_n 0, 1) := by decide +kernel
theorem dX5_init_1 : decode cX5_init 1 = .ok (.invokespecial 1, 3) := by decide +kernel
theorem dX5_init_4 : decode cX5_init 4 = .ok (.aload_n 0, 1) := by decide +kernel
theorem dX5_init_5 : decode cX5_init 5 = .ok (.iconst (-1), 1) := by decide +kernel
theorem dX5_init_6 : decode cX5_init 6 = .ok (.putfield 7, 3) := by decide +kernel
theorem dX5_init_9 : decode cX5_init 9 = .ok (.aload_n 0, 1) := by decide +kernel
theorem dX5_init_10 : decode cX5_init 10 = .ok (.bipush 8, 2) := by decide +kernel
theorem dX5_init_12 : decode cX5_init 12 = .ok (.newarray .int, 2) := by decide +kernel
theorem dX5_init_14 : decode cX5_init 14 = .ok (.putfield 13, 3) := by decide +kernel
theorem dX5_init_17 : decode cX5_init 17 = .ok (.aload_n 0, 1) := by decide +kernel
theorem dX5_init_18 : decode cX5_init 18 = .ok (.bipush 8, 2) := by decide +kernel
theorem dX5_init_20 : decode cX5_init 20 = .ok (.newarray .int, 2) := by decide +kernel
theorem dX5_init_22 : decode cX5_init 22 = .ok (.putfield 17, 3) := by decide +kernel
theorem dX5_init_25 : decode cX5_init 25 = .ok (.aload_n 0, 1) := by decide +kernel
theorem dX5_init_26 : decode cX5_init 26 = .ok (.sipush 520, 3) := by decide +kernel
theorem dX5_init_29 : decode cX5_init 29 = .ok (.newarray .int, 2) := by decide +kernel
theorem dX5_init_31 : decode cX5_init 31 = .ok (.putfield 20, 3) := by decide +kernel
theorem dX5_init_34 : decode cX5_init 34 = .ok (.aload_n 0, 1) := by decide +kernel
theorem dX5_init_35 : decode cX5_init 35 = .ok (.sipush 520, 3) := by decide +kernel
theorem dX5_init_38 : decode cX5_init 38 = .ok (.newarray .int, 2) := by decide +kernel
theorem dX5_init_40 : decode cX5_init 40 = .ok (.putfield 23, 3) := by decide +kernel
theorem dX5_init_43 : decode cX5_init 43 = .ok (.aload_n 0, 1) := by decide +kernel
theorem dX5_init_44 : decode cX5_init 44 = .ok (.sipush 520, 3) := by decide +kernel
theorem dX5_init_47 : decode cX5_init 47 = .ok (.newarray .boolean, 2) := by decide +kernel
theorem dX5_init_49 : decode cX5_init 49 = .ok (.putfield 26, 3) := by decide +kernel
theorem dX5_init_52 : decode cX5_init 52 = .ok (.aload_n 0, 1) := by decide +kernel
theorem dX5_init_53 : decode cX5_init 53 = .ok (.bipush 16, 2) := by decide +kernel
theorem dX5_init_55 : decode cX5_init 55 = .ok (.newarray .int, 2) := by decide +kernel
theorem dX5_init_57 : decode cX5_init 57 = .ok (.putfield 30, 3) := by decide +kernel
theorem dX5_init_60 : decode cX5_init 60 = .ok (.aload_n 0, 1) := by decide +kernel
theorem dX5_init_61 : decode cX5_init 61 = .ok (.sipush 520, 3) := by decide +kernel
theorem dX5_init_64 : decode cX5_init 64 = .ok (.newarray .int, 2) := by decide +kernel
theorem dX5_init_66 : decode cX5_init 66 = .ok (.putfield 33, 3) := by decide +kernel
theorem dX5_init_69 : decode cX5_init 69 = .ok (.aload_n 0, 1) := by decide +kernel
theorem dX5_init_70 : decode cX5_init 70 = .ok (.iload_n 1, 1) := by decide +kernel
theorem dX5_init_71 : decode cX5_init 71 = .ok (.ifCond .le 14, 3) := by decide +kernel
theorem dX5_init_74 : decode cX5_init 74 = .ok (.iload_n 1, 1) := by decide +kernel
theorem dX5_init_75 : decode cX5_init 75 = .ok (.bipush 31, 2) := by decide +kernel
theorem dX5_init_77 : decode cX5_init 77 = .ok (.if_icmp .ge 8, 3) := by decide +kernel
theorem dX5_init_80 : decode cX5_init 80 = .ok (.iload_n 1, 1) := by decide +kernel
theorem dX5_init_81 : decode cX5_init 81 = .ok (.i2l, 1) := by decide +kernel
theorem dX5_init_82 : decode cX5_init 82 = .ok (.goto 6, 3) := by decide +kernel
theorem dX5_init_85 : decode cX5_init 85 = .ok (.ldc2_w 36, 3) := by decide +kernel
theorem dX5_init_88 : decode cX5_init 88 = .ok (.putfield 38, 3) := by decide +kernel
theorem dX5_init_91 : decode cX5_init 91 = .ok (.return_, 1) := by decide +kernel
theorem dX5_thrown_0 : decode cX5_thrown 0 = .ok (.aload_n 0, 1) := by decide +kernel
theorem dX5_thrown_1 : decode cX5_thrown 1 = .ok (.getfield 42, 3) := by decide +kernel
theorem dX5_thrown_4 : decode cX5_thrown 4 = .ok (.ireturn, 1) := by decide +kernel
theorem dX5_turned_0 : decode cX5_turned 0 = .ok (.iconst 0, 1) := by decide +kernel
theorem dX5_turned_1 : decode cX5_turned 1 = .ok (.istore_n 1, 1) := by decide +kernel
theorem dX5_turned_2 : decode cX5_turned 2 = .ok (.iload_n 0, 1) := by decide +kernel
theorem dX5_turned_3 : decode cX5_turned 3 = .ok (.iconst 1, 1) := by decide +kernel
theorem dX5_turned_4 : decode cX5_turned 4 = .ok (.iand, 1) := by decide +kernel
theorem dX5_turned_5 : decode cX5_turned 5 = .ok (.ifCond .le 8, 3) := by decide +kernel
theorem dX5_turned_8 : decode cX5_turned 8 = .ok (.iload_n 1, 1) := by decide +kernel
theorem dX5_turned_9 : decode cX5_turned 9 = .ok (.bipush 13, 2) := by decide +kernel
theorem dX5_turned_11 : decode cX5_turned 11 = .ok (.ixor, 1) := by decide +kernel
theorem dX5_turned_12 : decode cX5_turned 12 = .ok (.istore_n 1, 1) := by decide +kernel
theorem dX5_turned_13 : decode cX5_turned 13 = .ok (.iload_n 0, 1) := by decide +kernel
theorem dX5_turned_14 : decode cX5_turned 14 = .ok (.iconst 2, 1) := by decide +kernel
theorem dX5_turned_15 : decode cX5_turned 15 = .ok (.iand, 1) := by decide +kernel
theorem dX5_turned_16 : decode cX5_turned 16 = .ok (.ifCond .le 8, 3) := by decide +kernel
theorem dX5_turned_19 : decode cX5_turned 19 = .ok (.iload_n 1, 1) := by decide +kernel
theorem dX5_turned_20 : decode cX5_turned 20 = .ok (.bipush 7, 2) := by decide +kernel
theorem dX5_turned_22 : decode cX5_turned 22 = .ok (.ixor, 1) := by decide +kernel
theorem dX5_turned_23 : decode cX5_turned 23 = .ok (.istore_n 1, 1) := by decide +kernel
theorem dX5_turned_24 : decode cX5_turned 24 = .ok (.iload_n 0, 1) := by decide +kernel
theorem dX5_turned_25 : decode cX5_turned 25 = .ok (.iconst 4, 1) := by decide +kernel
theorem dX5_turned_26 : decode cX5_turned 26 = .ok (.iand, 1) := by decide +kernel
theorem dX5_turned_27 : decode cX5_turned 27 = .ok (.ifCond .le 8, 3) := by decide +kernel
theorem dX5_turned_30 : decode cX5_turned 30 = .ok (.iload_n 1, 1) := by decide +kernel
theorem dX5_turned_31 : decode cX5_turned 31 = .ok (.bipush 14, 2) := by decide +kernel
theorem dX5_turned_33 : decode cX5_turned 33 = .ok (.ixor, 1) := by decide +kernel
theorem dX5_turned_34 : decode cX5_turned 34 = .ok (.istore_n 1, 1) := by decide +kernel
theorem dX5_turned_35 : decode cX5_turned 35 = .ok (.iload_n 0, 1) := by decide +kernel
theorem dX5_turned_36 : decode cX5_turned 36 = .ok (.bipush 8, 2) := by decide +kernel
theorem dX5_turned_38 : decode cX5_turned 38 = .ok (.iand, 1) := by decide +kernel
theorem dX5_turned_39 : decode cX5_turned 39 = .ok (.ifCond .le 7, 3) := by decide +kernel
theorem dX5_turned_42 : decode cX5_turned 42 = .ok (.iload_n 1, 1) := by decide +kernel
theorem dX5_turned_43 : decode cX5_turned 43 = .ok (.iconst 1, 1) := by decide +kernel
theorem dX5_turned_44 : decode cX5_turned 44 = .ok (.ixor, 1) := by decide +kernel
theorem dX5_turned_45 : decode cX5_turned 45 = .ok (.istore_n 1, 1) := by decide +kernel
theorem dX5_turned_46 : decode cX5_turned 46 = .ok (.iload_n 1, 1) := by decide +kernel
theorem dX5_turned_47 : decode cX5_turned 47 = .ok (.ireturn, 1) := by decide +kernel
theorem dX5_fits_0 : decode cX5_fits 0 = .ok (.lload_n 1, 1) := by decide +kernel
theorem dX5_fits_1 : decode cX5_fits 1 = .ok (.ldc2_w 45, 3) := by decide +kernel
theorem dX5_fits_4 : decode cX5_fits 4 = .ok (.lcmp, 1) := by decide +kernel
theorem dX5_fits_5 : decode cX5_fits 5 = .ok (.ifCond .lt 11, 3) := by decide +kernel
theorem dX5_fits_8 : decode cX5_fits 8 = .ok (.lload_n 1, 1) := by decide +kernel
theorem dX5_fits_9 : decode cX5_fits 9 = .ok (.ldc2_w 47, 3) := by decide +kernel
theorem dX5_fits_12 : decode cX5_fits 12 = .ok (.lcmp, 1) := by decide +kernel
theorem dX5_fits_13 : decode cX5_fits 13 = .ok (.ifCond .le 5, 3) := by decide +kernel
theorem dX5_fits_16 : decode cX5_fits 16 = .ok (.iconst 0, 1) := by decide +kernel
theorem dX5_fits_17 : decode cX5_fits 17 = .ok (.ireturn, 1) := by decide +kernel
theorem dX5_fits_18 : decode cX5_fits 18 = .ok (.lload_n 1, 1) := by decide +kernel
theorem dX5_fits_19 : decode cX5_fits 19 = .ok (.aload_n 0, 1) := by decide +kernel
theorem dX5_fits_20 : decode cX5_fits 20 = .ok (.getfield 49, 3) := by decide +kernel
theorem dX5_fits_23 : decode cX5_fits 23 = .ok (.lcmp, 1) := by decide +kernel
theorem dX5_fits_24 : decode cX5_fits 24 = .ok (.ifCond .ge 12, 3) := by decide +kernel
theorem dX5_fits_27 : decode cX5_fits 27 = .ok (.aload_n 0, 1) := by decide +kernel
theorem dX5_fits_28 : decode cX5_fits 28 = .ok (.getfield 49, 3) := by decide +kernel
theorem dX5_fits_31 : decode cX5_fits 31 = .ok (.lload_n 1, 1) := by decide +kernel
theorem dX5_fits_32 : decode cX5_fits 32 = .ok (.lsub, 1) := by decide +kernel
theorem dX5_fits_33 : decode cX5_fits 33 = .ok (.goto 9, 3) := by decide +kernel
theorem dX5_fits_36 : decode cX5_fits 36 = .ok (.lload_n 1, 1) := by decide +kernel
theorem dX5_fits_37 : decode cX5_fits 37 = .ok (.aload_n 0, 1) := by decide +kernel
theorem dX5_fits_38 : decode cX5_fits 38 = .ok (.getfield 49, 3) := by decide +kernel
theorem dX5_fits_41 : decode cX5_fits 41 = .ok (.lsub, 1) := by decide +kernel
theorem dX5_fits_42 : decode cX5_fits 42 = .ok (.lstore_n 3, 1) := by decide +kernel
theorem dX5_fits_43 : decode cX5_fits 43 = .ok (.aload_n 0, 1) := by decide +kernel
theorem dX5_fits_44 : decode cX5_fits 44 = .ok (.getfield 49, 3) := by decide +kernel
theorem dX5_fits_47 : decode cX5_fits 47 = .ok (.lconst 0, 1) := by decide +kernel
theorem dX5_fits_48 : decode cX5_fits 48 = .ok (.lcmp, 1) := by decide +kernel
theorem dX5_fits_49 : decode cX5_fits 49 = .ok (.ifCond .eq 21, 3) := by decide +kernel
theorem dX5_fits_52 : decode cX5_fits 52 = .ok (.lload_n 3, 1) := by decide +kernel
theorem dX5_fits_53 : decode cX5_fits 53 = .ok (.ldc2_w 52, 3) := by decide +kernel
theorem dX5_fits_56 : decode cX5_fits 56 = .ok (.lmul, 1) := by decide +kernel
theorem dX5_fits_57 : decode cX5_fits 57 = .ok (.aload_n 0, 1) := by decide +kernel
theorem dX5_fits_58 : decode cX5_fits 58 = .ok (.getfield 49, 3) := by decide +kernel
theorem dX5_fits_61 : decode cX5_fits 61 = .ok (.aload_n 0, 1) := by decide +kernel
theorem dX5_fits_62 : decode cX5_fits 62 = .ok (.getfield 38, 3) := by decide +kernel
theorem dX5_fits_65 : decode cX5_fits 65 = .ok (.lmul, 1) := by decide +kernel
theorem dX5_fits_66 : decode cX5_fits 66 = .ok (.lcmp, 1) := by decide +kernel
theorem dX5_fits_67 : decode cX5_fits 67 = .ok (.ifCond .gt 7, 3) := by decide +kernel
theorem dX5_fits_70 : decode cX5_fits 70 = .ok (.iconst 1, 1) := by decide +kernel
theorem dX5_fits_71 : decode cX5_fits 71 = .ok (.goto 4, 3) := by decide +kernel
theorem dX5_fits_74 : decode cX5_fits 74 = .ok (.iconst 0, 1) := by decide +kernel
theorem dX5_fits_75 : decode cX5_fits 75 = .ok (.ireturn, 1) := by decide +kernel
theorem dX5_fault_0 : decode cX5_fault 0 = .ok (.aload_n 0, 1) := by decide +kernel
theorem dX5_fault_1 : decode cX5_fault 1 = .ok (.dup, 1) := by decide +kernel
theorem dX5_fault_2 : decode cX5_fault 2 = .ok (.getfield 54, 3) := by decide +kernel
theorem dX5_fault_5 : decode cX5_fault 5 = .ok (.iconst 1, 1) := by decide +kernel
theorem dX5_fault_6 : decode cX5_fault 6 = .ok (.iadd, 1) := by decide +kernel
theorem dX5_fault_7 : decode cX5_fault 7 = .ok (.putfield 54, 3) := by decide +kernel
theorem dX5_fault_10 : decode cX5_fault 10 = .ok (.aload_n 0, 1) := by decide +kernel
theorem dX5_fault_11 : decode cX5_fault 11 = .ok (.dup, 1) := by decide +kernel
theorem dX5_fault_12 : decode cX5_fault 12 = .ok (.getfield 57, 3) := by decide +kernel
theorem dX5_fault_15 : decode cX5_fault 15 = .ok (.iconst 1, 1) := by decide +kernel
theorem dX5_fault_16 : decode cX5_fault 16 = .ok (.iadd, 1) := by decide +kernel
theorem dX5_fault_17 : decode cX5_fault 17 = .ok (.putfield 57, 3) := by decide +kernel
theorem dX5_fault_20 : decode cX5_fault 20 = .ok (.aload_n 0, 1) := by decide +kernel
theorem dX5_fault_21 : decode cX5_fault 21 = .ok (.aload_n 0, 1) := by decide +kernel
theorem dX5_fault_22 : decode cX5_fault 22 = .ok (.getfield 60, 3) := by decide +kernel
theorem dX5_fault_25 : decode cX5_fault 25 = .ok (.ifCond .ne 11, 3) := by decide +kernel
theorem dX5_fault_28 : decode cX5_fault 28 = .ok (.aload_n 0, 1) := by decide +kernel
theorem dX5_fault_29 : decode cX5_fault 29 = .ok (.getfield 57, 3) := by decide +kernel
theorem dX5_fault_32 : decode cX5_fault 32 = .ok (.iconst 3, 1) := by decide +kernel
theorem dX5_fault_33 : decode cX5_fault 33 = .ok (.if_icmp .ne 7, 3) := by decide +kernel
theorem dX5_fault_36 : decode cX5_fault 36 = .ok (.iconst 1, 1) := by decide +kernel
theorem dX5_fault_37 : decode cX5_fault 37 = .ok (.goto 4, 3) := by decide +kernel
theorem dX5_fault_40 : decode cX5_fault 40 = .ok (.iconst 0, 1) := by decide +kernel
theorem dX5_fault_41 : decode cX5_fault 41 = .ok (.putfield 60, 3) := by decide +kernel
theorem dX5_fault_44 : decode cX5_fault 44 = .ok (.return_, 1) := by decide +kernel
set_option maxRecDepth 20000 in
theorem ggX5_slowBit_X5_turned : GoodIn wsX5_slowBit wsX5_turned := goodIn_r _ [8] (by decide +kernel) (by decide +kernel)
set_option maxRecDepth 20000 in
theorem gX5_slowBit_X5_turned : GoodIn wsX5_slowBit (va_wsS RX5 67 yX5_turned wsX5_turned) := goodIn_app (goodIn_of _ (by decide +kernel)) ggX5_slowBit_X5_turned
set_option maxRecDepth 20000 in
theorem ggX5_slowBit_X5_fault : GoodIn wsX5_slowBit wsX5_fault := goodIn_r _ [12, 13, 14, 15, 16, 17, 18, 19, 20, 21, 22, 23, 24, 25, 26, 27, 28, 29, 30, 31, 32, 33, 34, 35, 36, 37, 38, 39, 40, 41, 42, 43] (by decide +kernel) (by decide +kernel)
set_option maxRecDepth 20000 in
theorem gX5_slowBit_X5_fault : GoodIn wsX5_slowBit (wsV RX5 71 RX5 yX5_fault wsX5_fault) := goodIn_app (goodIn_of _ (by decide +kernel)) ggX5_slowBit_X5_fault
theorem dX5_slowBit_0 : decode cX5_slowBit 0 = .ok (.iload_n 1, 1) := by decide +kernel
theorem dX5_slowBit_1 : decode cX5_slowBit 1 = .ok (.bipush 8, 2) := by decide +kernel
theorem dX5_slowBit_3 : decode cX5_slowBit 3 = .ok (.if_icmp .lt 7, 3) := by decide +kernel
theorem dX5_slowBit_6 : decode cX5_slowBit 6 = .ok (.iconst 1, 1) := by decide +kernel
theorem dX5_slowBit_7 : decode cX5_slowBit 7 = .ok (.goto 4, 3) := by decide +kernel
theorem dX5_slowBit_10 : decode cX5_slowBit 10 = .ok (.iconst 0, 1) := by decide +kernel
theorem dX5_slowBit_11 : decode cX5_slowBit 11 = .ok (.istore_n 2, 1) := by decide +kernel
theorem dX5_slowBit_12 : decode cX5_slowBit 12 = .ok (.iload_n 2, 1) := by decide +kernel
theorem dX5_slowBit_13 : decode cX5_slowBit 13 = .ok (.ifCond .eq 11, 3) := by decide +kernel
theorem dX5_slowBit_16 : decode cX5_slowBit 16 = .ok (.aload_n 0, 1) := by decide +kernel
theorem dX5_slowBit_17 : decode cX5_slowBit 17 = .ok (.iconst 0, 1) := by decide +kernel
theorem dX5_slowBit_18 : decode cX5_slowBit 18 = .ok (.putfield 64, 3) := by decide +kernel
theorem dX5_slowBit_21 : decode cX5_slowBit 21 = .ok (.goto 11, 3) := by decide +kernel
theorem dX5_slowBit_24 : decode cX5_slowBit 24 = .ok (.aload_n 0, 1) := by decide +kernel
theorem dX5_slowBit_25 : decode cX5_slowBit 25 = .ok (.getfield 64, 3) := by decide +kernel
theorem dX5_slowBit_28 : decode cX5_slowBit 28 = .ok (.ifCond .ne 4, 3) := by decide +kernel
theorem dX5_slowBit_31 : decode cX5_slowBit 31 = .ok (.return_, 1) := by decide +kernel
theorem dX5_slowBit_32 : decode cX5_slowBit 32 = .ok (.aload_n 0, 1) := by decide +kernel
theorem dX5_slowBit_33 : decode cX5_slowBit 33 = .ok (.getfield 30, 3) := by decide +kernel
theorem dX5_slowBit_36 : decode cX5_slowBit 36 = .ok (.aload_n 0, 1) := by decide +kernel
theorem dX5_slowBit_37 : decode cX5_slowBit 37 = .ok (.getfield 64, 3) := by decide +kernel
theorem dX5_slowBit_40 : decode cX5_slowBit 40 = .ok (.iload_n 1, 1) := by decide +kernel
theorem dX5_slowBit_41 : decode cX5_slowBit 41 = .ok (.iconst 4, 1) := by decide +kernel
theorem dX5_slowBit_42 : decode cX5_slowBit 42 = .ok (.idiv, 1) := by decide +kernel
theorem dX5_slowBit_43 : decode cX5_slowBit 43 = .ok (.iconst 2, 1) := by decide +kernel
theorem dX5_slowBit_44 : decode cX5_slowBit 44 = .ok (.irem, 1) := by decide +kernel
theorem dX5_slowBit_45 : decode cX5_slowBit 45 = .ok (.iastore, 1) := by decide +kernel
theorem dX5_slowBit_46 : decode cX5_slowBit 46 = .ok (.aload_n 0, 1) := by decide +kernel
theorem dX5_slowBit_47 : decode cX5_slowBit 47 = .ok (.dup, 1) := by decide +kernel
theorem dX5_slowBit_48 : decode cX5_slowBit 48 = .ok (.getfield 64, 3) := by decide +kernel
theorem dX5_slowBit_51 : decode cX5_slowBit 51 = .ok (.iconst 1, 1) := by decide +kernel
theorem dX5_slowBit_52 : decode cX5_slowBit 52 = .ok (.iadd, 1) := by decide +kernel
theorem dX5_slowBit_53 : decode cX5_slowBit 53 = .ok (.putfield 64, 3) := by decide +kernel
theorem dX5_slowBit_56 : decode cX5_slowBit 56 = .ok (.aload_n 0, 1) := by decide +kernel
theorem dX5_slowBit_57 : decode cX5_slowBit 57 = .ok (.getfield 64, 3) := by decide +kernel
theorem dX5_slowBit_60 : decode cX5_slowBit 60 = .ok (.bipush 16, 2) := by decide +kernel
theorem dX5_slowBit_62 : decode cX5_slowBit 62 = .ok (.if_icmp .ge 4, 3) := by decide +kernel
theorem dX5_slowBit_65 : decode cX5_slowBit 65 = .ok (.return_, 1) := by decide +kernel
theorem dX5_slowBit_66 : decode cX5_slowBit 66 = .ok (.aload_n 0, 1) := by decide +kernel
theorem dX5_slowBit_67 : decode cX5_slowBit 67 = .ok (.iconst 0, 1) := by decide +kernel
theorem dX5_slowBit_68 : decode cX5_slowBit 68 = .ok (.putfield 64, 3) := by decide +kernel
theorem dX5_slowBit_71 : decode cX5_slowBit 71 = .ok (.iconst 5, 1) := by decide +kernel
theorem dX5_slowBit_72 : decode cX5_slowBit 72 = .ok (.istore_n 3, 1) := by decide +kernel
theorem dX5_slowBit_73 : decode cX5_slowBit 73 = .ok (.iconst 0, 1) := by decide +kernel
theorem dX5_slowBit_74 : decode cX5_slowBit 74 = .ok (.istore 4, 2) := by decide +kernel
theorem dX5_slowBit_76 : decode cX5_slowBit 76 = .ok (.iconst 0, 1) := by decide +kernel
theorem dX5_slowBit_77 : decode cX5_slowBit 77 = .ok (.istore 5, 2) := by decide +kernel
theorem dX5_slowBit_79 : decode cX5_slowBit 79 = .ok (.iload 5, 2) := by decide +kernel
theorem dX5_slowBit_81 : decode cX5_slowBit 81 = .ok (.bipush 16, 2) := by decide +kernel
theorem dX5_slowBit_83 : decode cX5_slowBit 83 = .ok (.if_icmp .ge 49, 3) := by decide +kernel
theorem dX5_slowBit_86 : decode cX5_slowBit 86 = .ok (.iload 4, 2) := by decide +kernel
theorem dX5_slowBit_88 : decode cX5_slowBit 88 = .ok (.iconst 2, 1) := by decide +kernel
theorem dX5_slowBit_89 : decode cX5_slowBit 89 = .ok (.imul, 1) := by decide +kernel
theorem dX5_slowBit_90 : decode cX5_slowBit 90 = .ok (.aload_n 0, 1) := by decide +kernel
theorem dX5_slowBit_91 : decode cX5_slowBit 91 = .ok (.getfield 30, 3) := by decide +kernel
theorem dX5_slowBit_94 : decode cX5_slowBit 94 = .ok (.iload 5, 2) := by decide +kernel
theorem dX5_slowBit_96 : decode cX5_slowBit 96 = .ok (.iaload, 1) := by decide +kernel
theorem dX5_slowBit_97 : decode cX5_slowBit 97 = .ok (.iadd, 1) := by decide +kernel
theorem dX5_slowBit_98 : decode cX5_slowBit 98 = .ok (.istore 4, 2) := by decide +kernel
theorem dX5_slowBit_100 : decode cX5_slowBit 100 = .ok (.iload 5, 2) := by decide +kernel
theorem dX5_slowBit_102 : decode cX5_slowBit 102 = .ok (.iconst 4, 1) := by decide +kernel
theorem dX5_slowBit_103 : decode cX5_slowBit 103 = .ok (.irem, 1) := by decide +kernel
theorem dX5_slowBit_104 : decode cX5_slowBit 104 = .ok (.iconst 3, 1) := by decide +kernel
theorem dX5_slowBit_105 : decode cX5_slowBit 105 = .ok (.if_icmp .ne 21, 3) := by decide +kernel
theorem dX5_slowBit_108 : decode cX5_slowBit 108 = .ok (.iload 5, 2) := by decide +kernel
theorem dX5_slowBit_110 : decode cX5_slowBit 110 = .ok (.bipush 15, 2) := by decide +kernel
theorem dX5_slowBit_112 : decode cX5_slowBit 112 = .ok (.if_icmp .ge 14, 3) := by decide +kernel
theorem dX5_slowBit_115 : decode cX5_slowBit 115 = .ok (.iload_n 3, 1) := by decide +kernel
theorem dX5_slowBit_116 : decode cX5_slowBit 116 = .ok (.invokestatic 67, 3) := by decide +kernel
theorem dX5_slowBit_119 : decode cX5_slowBit 119 = .ok (.iload 4, 2) := by decide +kernel
theorem dX5_slowBit_121 : decode cX5_slowBit 121 = .ok (.bipush 16, 2) := by decide +kernel
theorem dX5_slowBit_123 : decode cX5_slowBit 123 = .ok (.irem, 1) := by decide +kernel
theorem dX5_slowBit_124 : decode cX5_slowBit 124 = .ok (.ixor, 1) := by decide +kernel
theorem dX5_slowBit_125 : decode cX5_slowBit 125 = .ok (.istore_n 3, 1) := by decide +kernel
theorem dX5_slowBit_126 : decode cX5_slowBit 126 = .ok (.iinc 5 1, 3) := by decide +kernel
theorem dX5_slowBit_129 : decode cX5_slowBit 129 = .ok (.goto (-50), 3) := by decide +kernel
theorem dX5_slowBit_132 : decode cX5_slowBit 132 = .ok (.iload_n 3, 1) := by decide +kernel
theorem dX5_slowBit_133 : decode cX5_slowBit 133 = .ok (.invokestatic 67, 3) := by decide +kernel
theorem dX5_slowBit_136 : decode cX5_slowBit 136 = .ok (.iload 4, 2) := by decide +kernel
theorem dX5_slowBit_138 : decode cX5_slowBit 138 = .ok (.bipush 16, 2) := by decide +kernel
theorem dX5_slowBit_140 : decode cX5_slowBit 140 = .ok (.irem, 1) := by decide +kernel
theorem dX5_slowBit_141 : decode cX5_slowBit 141 = .ok (.if_icmp .eq 8, 3) := by decide +kernel
theorem dX5_slowBit_144 : decode cX5_slowBit 144 = .ok (.aload_n 0, 1) := by decide +kernel
theorem dX5_slowBit_145 : decode cX5_slowBit 145 = .ok (.invokevirtual 71, 3) := by decide +kernel
theorem dX5_slowBit_148 : decode cX5_slowBit 148 = .ok (.return_, 1) := by decide +kernel
theorem dX5_slowBit_149 : decode cX5_slowBit 149 = .ok (.aload_n 0, 1) := by decide +kernel
theorem dX5_slowBit_150 : decode cX5_slowBit 150 = .ok (.getfield 33, 3) := by decide +kernel
theorem dX5_slowBit_153 : decode cX5_slowBit 153 = .ok (.aload_n 0, 1) := by decide +kernel
theorem dX5_slowBit_154 : decode cX5_slowBit 154 = .ok (.getfield 74, 3) := by decide +kernel
theorem dX5_slowBit_157 : decode cX5_slowBit 157 = .ok (.iload 4, 2) := by decide +kernel
theorem dX5_slowBit_159 : decode cX5_slowBit 159 = .ok (.bipush 16, 2) := by decide +kernel
theorem dX5_slowBit_161 : decode cX5_slowBit 161 = .ok (.idiv, 1) := by decide +kernel
theorem dX5_slowBit_162 : decode cX5_slowBit 162 = .ok (.iastore, 1) := by decide +kernel
theorem dX5_slowBit_163 : decode cX5_slowBit 163 = .ok (.aload_n 0, 1) := by decide +kernel
theorem dX5_slowBit_164 : decode cX5_slowBit 164 = .ok (.dup, 1) := by decide +kernel
theorem dX5_slowBit_165 : decode cX5_slowBit 165 = .ok (.getfield 74, 3) := by decide +kernel
theorem dX5_slowBit_168 : decode cX5_slowBit 168 = .ok (.iconst 1, 1) := by decide +kernel
theorem dX5_slowBit_169 : decode cX5_slowBit 169 = .ok (.iadd, 1) := by decide +kernel
theorem dX5_slowBit_170 : decode cX5_slowBit 170 = .ok (.putfield 74, 3) := by decide +kernel
theorem dX5_slowBit_173 : decode cX5_slowBit 173 = .ok (.return_, 1) := by decide +kernel
set_option maxRecDepth 20000 in
theorem ggX5_frameDone_X5_turned : GoodIn wsX5_frameDone wsX5_turned := goodIn_r _ [14] (by decide +kernel) (by decide +kernel)
set_option maxRecDepth 20000 in
theorem gX5_frameDone_X5_turned : GoodIn wsX5_frameDone (va_wsS RX5 67 yX5_turned wsX5_turned) := goodIn_app (goodIn_of _ (by decide +kernel)) ggX5_frameDone_X5_turned
set_option maxRecDepth 20000 in
theorem ggX5_frameDone_X5_slowBit : GoodIn wsX5_frameDone wsX5_slowBit := goodIn_r _ [18, 10, 19, 20, 21, 11, 12, 13, 14, 22, 23, 24, 25, 26, 9, 27, 28, 29, 30, 31, 32, 33, 34, 35, 36, 37, 38, 39, 40, 41, 42, 43, 44, 45, 46, 47, 48, 49, 50, 51, 52, 53, 54, 55] (by decide +kernel) (by decide +kernel)
set_option maxRecDepth 20000 in
theorem gX5_frameDone_X5_slowBit : GoodIn wsX5_frameDone (wsV RX5 83 RX5 yX5_slowBit wsX5_slowBit) := goodIn_app (goodIn_of _ (by decide +kernel)) ggX5_frameDone_X5_slowBit
set_option maxRecDepth 20000 in
theorem ggX5_frameDone_X5_fault : GoodIn wsX5_frameDone wsX5_fault := goodIn_r _ [25, 26, 9, 27, 28, 29, 30, 31, 32, 33, 34, 35, 36, 37, 38, 39, 40, 41, 42, 43, 44, 45, 46, 47, 48, 49, 50, 51, 52, 53, 54, 55] (by decide +kernel) (by decide +kernel)
set_option maxRecDepth 20000 in
theorem gX5_frameDone_X5_fault : GoodIn wsX5_frameDone (wsV RX5 71 RX5 yX5_fault wsX5_fault) := goodIn_app (goodIn_of _ (by decide +kernel)) ggX5_frameDone_X5_fault
theorem dX5_frameDone_0 : decode cX5_frameDone 0 = .ok (.iconst 5, 1) := by decide +kernel
theorem dX5_frameDone_1 : decode cX5_frameDone 1 = .ok (.istore_n 1, 1) := by decide +kernel
theorem dX5_frameDone_2 : decode cX5_frameDone 2 = .ok (.iconst 0, 1) := by decide +kernel
theorem dX5_frameDone_3 : decode cX5_frameDone 3 = .ok (.istore_n 2, 1) := by decide +kernel
theorem dX5_frameDone_4 : decode cX5_frameDone 4 = .ok (.iconst 0, 1) := by decide +kernel
theorem dX5_frameDone_5 : decode cX5_frameDone 5 = .ok (.istore_n 3, 1) := by decide +kernel
theorem dX5_frameDone_6 : decode cX5_frameDone 6 = .ok (.iload_n 3, 1) := by decide +kernel
theorem dX5_frameDone_7 : decode cX5_frameDone 7 = .ok (.bipush 8, 2) := by decide +kernel
theorem dX5_frameDone_9 : decode cX5_frameDone 9 = .ok (.if_icmp .ge 58, 3) := by decide +kernel
theorem dX5_frameDone_12 : decode cX5_frameDone 12 = .ok (.aload_n 0, 1) := by decide +kernel
theorem dX5_frameDone_13 : decode cX5_frameDone 13 = .ok (.getfield 17, 3) := by decide +kernel
theorem dX5_frameDone_16 : decode cX5_frameDone 16 = .ok (.iload_n 3, 1) := by decide +kernel
theorem dX5_frameDone_17 : decode cX5_frameDone 17 = .ok (.aload_n 0, 1) := by decide +kernel
theorem dX5_frameDone_18 : decode cX5_frameDone 18 = .ok (.getfield 13, 3) := by decide +kernel
theorem dX5_frameDone_21 : decode cX5_frameDone 21 = .ok (.iload_n 3, 1) := by decide +kernel
theorem dX5_frameDone_22 : decode cX5_frameDone 22 = .ok (.iaload, 1) := by decide +kernel
theorem dX5_frameDone_23 : decode cX5_frameDone 23 = .ok (.iastore, 1) := by decide +kernel
theorem dX5_frameDone_24 : decode cX5_frameDone 24 = .ok (.iload_n 3, 1) := by decide +kernel
theorem dX5_frameDone_25 : decode cX5_frameDone 25 = .ok (.ifCond .eq 36, 3) := by decide +kernel
theorem dX5_frameDone_28 : decode cX5_frameDone 28 = .ok (.iload_n 3, 1) := by decide +kernel
theorem dX5_frameDone_29 : decode cX5_frameDone 29 = .ok (.bipush 7, 2) := by decide +kernel
theorem dX5_frameDone_31 : decode cX5_frameDone 31 = .ok (.if_icmp .ne 6, 3) := by decide +kernel
theorem dX5_frameDone_34 : decode cX5_frameDone 34 = .ok (.goto 27, 3) := by decide +kernel
theorem dX5_frameDone_37 : decode cX5_frameDone 37 = .ok (.iload_n 1, 1) := by decide +kernel
theorem dX5_frameDone_38 : decode cX5_frameDone 38 = .ok (.invokestatic 67, 3) := by decide +kernel
theorem dX5_frameDone_41 : decode cX5_frameDone 41 = .ok (.aload_n 0, 1) := by decide +kernel
theorem dX5_frameDone_42 : decode cX5_frameDone 42 = .ok (.getfield 13, 3) := by decide +kernel
theorem dX5_frameDone_45 : decode cX5_frameDone 45 = .ok (.iload_n 3, 1) := by decide +kernel
theorem dX5_frameDone_46 : decode cX5_frameDone 46 = .ok (.iaload, 1) := by decide +kernel
theorem dX5_frameDone_47 : decode cX5_frameDone 47 = .ok (.ixor, 1) := by decide +kernel
theorem dX5_frameDone_48 : decode cX5_frameDone 48 = .ok (.istore_n 1, 1) := by decide +kernel
theorem dX5_frameDone_49 : decode cX5_frameDone 49 = .ok (.iload_n 2, 1) := by decide +kernel
theorem dX5_frameDone_50 : decode cX5_frameDone 50 = .ok (.bipush 16, 2) := by decide +kernel
theorem dX5_frameDone_52 : decode cX5_frameDone 52 = .ok (.imul, 1) := by decide +kernel
theorem dX5_frameDone_53 : decode cX5_frameDone 53 = .ok (.aload_n 0, 1) := by decide +kernel
theorem dX5_frameDone_54 : decode cX5_frameDone 54 = .ok (.getfield 13, 3) := by decide +kernel
theorem dX5_frameDone_57 : decode cX5_frameDone 57 = .ok (.iload_n 3, 1) := by decide +kernel
theorem dX5_frameDone_58 : decode cX5_frameDone 58 = .ok (.iaload, 1) := by decide +kernel
theorem dX5_frameDone_59 : decode cX5_frameDone 59 = .ok (.iadd, 1) := by decide +kernel
theorem dX5_frameDone_60 : decode cX5_frameDone 60 = .ok (.istore_n 2, 1) := by decide +kernel
theorem dX5_frameDone_61 : decode cX5_frameDone 61 = .ok (.iinc 3 1, 3) := by decide +kernel
theorem dX5_frameDone_64 : decode cX5_frameDone 64 = .ok (.goto (-58), 3) := by decide +kernel
theorem dX5_frameDone_67 : decode cX5_frameDone 67 = .ok (.aload_n 0, 1) := by decide +kernel
theorem dX5_frameDone_68 : decode cX5_frameDone 68 = .ok (.iconst 1, 1) := by decide +kernel
theorem dX5_frameDone_69 : decode cX5_frameDone 69 = .ok (.putfield 77, 3) := by decide +kernel
theorem dX5_frameDone_72 : decode cX5_frameDone 72 = .ok (.aload_n 0, 1) := by decide +kernel
theorem dX5_frameDone_73 : decode cX5_frameDone 73 = .ok (.getfield 20, 3) := by decide +kernel
theorem dX5_frameDone_76 : decode cX5_frameDone 76 = .ok (.aload_n 0, 1) := by decide +kernel
theorem dX5_frameDone_77 : decode cX5_frameDone 77 = .ok (.getfield 80, 3) := by decide +kernel
theorem dX5_frameDone_80 : decode cX5_frameDone 80 = .ok (.aload_n 0, 1) := by decide +kernel
theorem dX5_frameDone_81 : decode cX5_frameDone 81 = .ok (.getfield 13, 3) := by decide +kernel
theorem dX5_frameDone_84 : decode cX5_frameDone 84 = .ok (.iconst 0, 1) := by decide +kernel
theorem dX5_frameDone_85 : decode cX5_frameDone 85 = .ok (.iaload, 1) := by decide +kernel
theorem dX5_frameDone_86 : decode cX5_frameDone 86 = .ok (.iastore, 1) := by decide +kernel
theorem dX5_frameDone_87 : decode cX5_frameDone 87 = .ok (.aload_n 0, 1) := by decide +kernel
theorem dX5_frameDone_88 : decode cX5_frameDone 88 = .ok (.getfield 23, 3) := by decide +kernel
theorem dX5_frameDone_91 : decode cX5_frameDone 91 = .ok (.aload_n 0, 1) := by decide +kernel
theorem dX5_frameDone_92 : decode cX5_frameDone 92 = .ok (.getfield 80, 3) := by decide +kernel
theorem dX5_frameDone_95 : decode cX5_frameDone 95 = .ok (.iload_n 2, 1) := by decide +kernel
theorem dX5_frameDone_96 : decode cX5_frameDone 96 = .ok (.iastore, 1) := by decide +kernel
theorem dX5_frameDone_97 : decode cX5_frameDone 97 = .ok (.aload_n 0, 1) := by decide +kernel
theorem dX5_frameDone_98 : decode cX5_frameDone 98 = .ok (.getfield 26, 3) := by decide +kernel
theorem dX5_frameDone_101 : decode cX5_frameDone 101 = .ok (.aload_n 0, 1) := by decide +kernel
theorem dX5_frameDone_102 : decode cX5_frameDone 102 = .ok (.getfield 80, 3) := by decide +kernel
theorem dX5_frameDone_105 : decode cX5_frameDone 105 = .ok (.iload_n 1, 1) := by decide +kernel
theorem dX5_frameDone_106 : decode cX5_frameDone 106 = .ok (.invokestatic 67, 3) := by decide +kernel
theorem dX5_frameDone_109 : decode cX5_frameDone 109 = .ok (.aload_n 0, 1) := by decide +kernel
theorem dX5_frameDone_110 : decode cX5_frameDone 110 = .ok (.getfield 13, 3) := by decide +kernel
theorem dX5_frameDone_113 : decode cX5_frameDone 113 = .ok (.bipush 7, 2) := by decide +kernel
theorem dX5_frameDone_115 : decode cX5_frameDone 115 = .ok (.iaload, 1) := by decide +kernel
theorem dX5_frameDone_116 : decode cX5_frameDone 116 = .ok (.if_icmp .ne 7, 3) := by decide +kernel
theorem dX5_frameDone_119 : decode cX5_frameDone 119 = .ok (.iconst 1, 1) := by decide +kernel
theorem dX5_frameDone_120 : decode cX5_frameDone 120 = .ok (.goto 4, 3) := by decide +kernel
theorem dX5_frameDone_123 : decode cX5_frameDone 123 = .ok (.iconst 0, 1) := by decide +kernel
theorem dX5_frameDone_124 : decode cX5_frameDone 124 = .ok (.bastore, 1) := by decide +kernel
theorem dX5_frameDone_125 : decode cX5_frameDone 125 = .ok (.aload_n 0, 1) := by decide +kernel
theorem dX5_frameDone_126 : decode cX5_frameDone 126 = .ok (.dup, 1) := by decide +kernel
theorem dX5_frameDone_127 : decode cX5_frameDone 127 = .ok (.getfield 80, 3) := by decide +kernel
theorem dX5_frameDone_130 : decode cX5_frameDone 130 = .ok (.iconst 1, 1) := by decide +kernel
theorem dX5_frameDone_131 : decode cX5_frameDone 131 = .ok (.iadd, 1) := by decide +kernel
theorem dX5_frameDone_132 : decode cX5_frameDone 132 = .ok (.putfield 80, 3) := by decide +kernel
theorem dX5_frameDone_135 : decode cX5_frameDone 135 = .ok (.aload_n 0, 1) := by decide +kernel
theorem dX5_frameDone_136 : decode cX5_frameDone 136 = .ok (.iconst (-1), 1) := by decide +kernel
theorem dX5_frameDone_137 : decode cX5_frameDone 137 = .ok (.putfield 7, 3) := by decide +kernel
theorem dX5_frameDone_140 : decode cX5_frameDone 140 = .ok (.aload_n 0, 1) := by decide +kernel
theorem dX5_frameDone_141 : decode cX5_frameDone 141 = .ok (.getfield 26, 3) := by decide +kernel
theorem dX5_frameDone_144 : decode cX5_frameDone 144 = .ok (.aload_n 0, 1) := by decide +kernel
theorem dX5_frameDone_145 : decode cX5_frameDone 145 = .ok (.getfield 80, 3) := by decide +kernel
theorem dX5_frameDone_148 : decode cX5_frameDone 148 = .ok (.iconst 1, 1) := by decide +kernel
theorem dX5_frameDone_149 : decode cX5_frameDone 149 = .ok (.isub, 1) := by decide +kernel
theorem dX5_frameDone_150 : decode cX5_frameDone 150 = .ok (.baload, 1) := by decide +kernel
theorem dX5_frameDone_151 : decode cX5_frameDone 151 = .ok (.ifCond .eq 21, 3) := by decide +kernel
theorem dX5_frameDone_154 : decode cX5_frameDone 154 = .ok (.aload_n 0, 1) := by decide +kernel
theorem dX5_frameDone_155 : decode cX5_frameDone 155 = .ok (.iconst 0, 1) := by decide +kernel
theorem dX5_frameDone_156 : decode cX5_frameDone 156 = .ok (.putfield 57, 3) := by decide +kernel
theorem dX5_frameDone_159 : decode cX5_frameDone 159 = .ok (.aload_n 0, 1) := by decide +kernel
theorem dX5_frameDone_160 : decode cX5_frameDone 160 = .ok (.aload_n 0, 1) := by decide +kernel
theorem dX5_frameDone_161 : decode cX5_frameDone 161 = .ok (.getfield 13, 3) := by decide +kernel
theorem dX5_frameDone_164 : decode cX5_frameDone 164 = .ok (.iconst 0, 1) := by decide +kernel
theorem dX5_frameDone_165 : decode cX5_frameDone 165 = .ok (.iaload, 1) := by decide +kernel
theorem dX5_frameDone_166 : decode cX5_frameDone 166 = .ok (.invokevirtual 83, 3) := by decide +kernel
theorem dX5_frameDone_169 : decode cX5_frameDone 169 = .ok (.goto 12, 3) := by decide +kernel
theorem dX5_frameDone_172 : decode cX5_frameDone 172 = .ok (.aload_n 0, 1) := by decide +kernel
theorem dX5_frameDone_173 : decode cX5_frameDone 173 = .ok (.iconst 0, 1) := by decide +kernel
theorem dX5_frameDone_174 : decode cX5_frameDone 174 = .ok (.putfield 64, 3) := by decide +kernel
theorem dX5_frameDone_177 : decode cX5_frameDone 177 = .ok (.aload_n 0, 1) := by decide +kernel
theorem dX5_frameDone_178 : decode cX5_frameDone 178 = .ok (.invokevirtual 71, 3) := by decide +kernel
theorem dX5_frameDone_181 : decode cX5_frameDone 181 = .ok (.return_, 1) := by decide +kernel
set_option maxRecDepth 20000 in
theorem ggX5_edge_X5_fits : GoodIn wsX5_edge wsX5_fits := goodIn_r _ [16, 8, 7, 6, 17, 18, 47, 48, 49, 50, 51, 52, 53, 54, 55, 56, 57, 58, 59, 60, 61, 62, 63, 64, 65, 66, 67, 68, 69, 70, 71, 72, 73, 74] (by decide +kernel) (by decide +kernel)
set_option maxRecDepth 20000 in
theorem gX5_edge_X5_fits : GoodIn wsX5_edge (wsV RX5 95 RX5 yX5_fits wsX5_fits) := goodIn_app (goodIn_of _ (by decide +kernel)) ggX5_edge_X5_fits
set_option maxRecDepth 20000 in
theorem ggX5_edge_X5_fault : GoodIn wsX5_edge wsX5_fault := goodIn_r _ [22, 23, 24, 25, 47, 48, 49, 50, 51, 52, 53, 54, 55, 56, 57, 58, 59, 60, 61, 62, 63, 64, 65, 66, 67, 68, 69, 70, 71, 72, 73, 74] (by decide +kernel) (by decide +kernel)
set_option maxRecDepth 20000 in
theorem gX5_edge_X5_fault : GoodIn wsX5_edge (wsV RX5 71 RX5 yX5_fault wsX5_fault) := goodIn_app (goodIn_of _ (by decide +kernel)) ggX5_edge_X5_fault
set_option maxRecDepth 20000 in
theorem ggX5_edge_X5_frameDone : GoodIn wsX5_edge wsX5_frameDone := goodIn_r _ [29, 30, 11, 31, 32, 33, 34, 35, 5, 24, 36, 37, 38, 15, 39, 40, 41, 42, 43, 44, 45, 46, 19, 20, 21, 22, 23, 25, 47, 48, 49, 50, 51, 52, 53, 54, 55, 56, 57, 58, 59, 60, 61, 62, 63, 64, 65, 66, 67, 68, 69, 70, 71, 72, 73, 74] (by decide +kernel) (by decide +kernel)
set_option maxRecDepth 20000 in
theorem gX5_edge_X5_frameDone : GoodIn wsX5_edge (wsV RX5 103 RX5 yX5_frameDone wsX5_frameDone) := goodIn_app (goodIn_of _ (by decide +kernel)) ggX5_edge_X5_frameDone
theorem dX5_edge_0 : decode cX5_edge 0 = .ok (.aload_n 0, 1) := by decide +kernel
theorem dX5_edge_1 : decode cX5_edge 1 = .ok (.iconst 0, 1) := by decide +kernel
theorem dX5_edge_2 : decode cX5_edge 2 = .ok (.putfield 42, 3) := by decide +kernel
theorem dX5_edge_5 : decode cX5_edge 5 = .ok (.lload_n 1, 1) := by decide +kernel
theorem dX5_edge_6 : decode cX5_edge 6 = .ok (.lconst 0, 1) := by decide +kernel
theorem dX5_edge_7 : decode cX5_edge 7 = .ok (.lcmp, 1) := by decide +kernel
theorem dX5_edge_8 : decode cX5_edge 8 = .ok (.ifCond .lt 27, 3) := by decide +kernel
theorem dX5_edge_11 : decode cX5_edge 11 = .ok (.lload_n 1, 1) := by decide +kernel
theorem dX5_edge_12 : decode cX5_edge 12 = .ok (.ldc2_w 87, 3) := by decide +kernel
theorem dX5_edge_15 : decode cX5_edge 15 = .ok (.lcmp, 1) := by decide +kernel
theorem dX5_edge_16 : decode cX5_edge 16 = .ok (.ifCond .gt 19, 3) := by decide +kernel
theorem dX5_edge_19 : decode cX5_edge 19 = .ok (.aload_n 0, 1) := by decide +kernel
theorem dX5_edge_20 : decode cX5_edge 20 = .ok (.getfield 89, 3) := by decide +kernel
theorem dX5_edge_23 : decode cX5_edge 23 = .ok (.ifCond .eq 15, 3) := by decide +kernel
theorem dX5_edge_26 : decode cX5_edge 26 = .ok (.lload_n 1, 1) := by decide +kernel
theorem dX5_edge_27 : decode cX5_edge 27 = .ok (.aload_n 0, 1) := by decide +kernel
theorem dX5_edge_28 : decode cX5_edge 28 = .ok (.getfield 92, 3) := by decide +kernel
theorem dX5_edge_31 : decode cX5_edge 31 = .ok (.lcmp, 1) := by decide +kernel
theorem dX5_edge_32 : decode cX5_edge 32 = .ok (.ifCond .gt 6, 3) := by decide +kernel
theorem dX5_edge_35 : decode cX5_edge 35 = .ok (.bipush (-2), 2) := by decide +kernel
theorem dX5_edge_37 : decode cX5_edge 37 = .ok (.ireturn, 1) := by decide +kernel
theorem dX5_edge_38 : decode cX5_edge 38 = .ok (.lload_n 1, 1) := by decide +kernel
theorem dX5_edge_39 : decode cX5_edge 39 = .ok (.aload_n 0, 1) := by decide +kernel
theorem dX5_edge_40 : decode cX5_edge 40 = .ok (.getfield 92, 3) := by decide +kernel
theorem dX5_edge_43 : decode cX5_edge 43 = .ok (.lsub, 1) := by decide +kernel
theorem dX5_edge_44 : decode cX5_edge 44 = .ok (.lstore_n 3, 1) := by decide +kernel
theorem dX5_edge_45 : decode cX5_edge 45 = .ok (.aload_n 0, 1) := by decide +kernel
theorem dX5_edge_46 : decode cX5_edge 46 = .ok (.lload_n 1, 1) := by decide +kernel
theorem dX5_edge_47 : decode cX5_edge 47 = .ok (.putfield 92, 3) := by decide +kernel
theorem dX5_edge_50 : decode cX5_edge 50 = .ok (.aload_n 0, 1) := by decide +kernel
theorem dX5_edge_51 : decode cX5_edge 51 = .ok (.getfield 89, 3) := by decide +kernel
theorem dX5_edge_54 : decode cX5_edge 54 = .ok (.ifCond .ne 10, 3) := by decide +kernel
theorem dX5_edge_57 : decode cX5_edge 57 = .ok (.aload_n 0, 1) := by decide +kernel
theorem dX5_edge_58 : decode cX5_edge 58 = .ok (.iconst 1, 1) := by decide +kernel
theorem dX5_edge_59 : decode cX5_edge 59 = .ok (.putfield 89, 3) := by decide +kernel
theorem dX5_edge_62 : decode cX5_edge 62 = .ok (.iconst 0, 1) := by decide +kernel
theorem dX5_edge_63 : decode cX5_edge 63 = .ok (.ireturn, 1) := by decide +kernel
theorem dX5_edge_64 : decode cX5_edge 64 = .ok (.aload_n 0, 1) := by decide +kernel
theorem dX5_edge_65 : decode cX5_edge 65 = .ok (.getfield 7, 3) := by decide +kernel
theorem dX5_edge_68 : decode cX5_edge 68 = .ok (.ifCond .ge 30, 3) := by decide +kernel
theorem dX5_edge_71 : decode cX5_edge 71 = .ok (.aload_n 0, 1) := by decide +kernel
theorem dX5_edge_72 : decode cX5_edge 72 = .ok (.lload_n 3, 1) := by decide +kernel
theorem dX5_edge_73 : decode cX5_edge 73 = .ok (.invokevirtual 95, 3) := by decide +kernel
theorem dX5_edge_76 : decode cX5_edge 76 = .ok (.ifCond .eq 16, 3) := by decide +kernel
theorem dX5_edge_79 : decode cX5_edge 79 = .ok (.aload_n 0, 1) := by decide +kernel
theorem dX5_edge_80 : decode cX5_edge 80 = .ok (.lload_n 3, 1) := by decide +kernel
theorem dX5_edge_81 : decode cX5_edge 81 = .ok (.putfield 49, 3) := by decide +kernel
theorem dX5_edge_84 : decode cX5_edge 84 = .ok (.aload_n 0, 1) := by decide +kernel
theorem dX5_edge_85 : decode cX5_edge 85 = .ok (.iconst 0, 1) := by decide +kernel
theorem dX5_edge_86 : decode cX5_edge 86 = .ok (.putfield 7, 3) := by decide +kernel
theorem dX5_edge_89 : decode cX5_edge 89 = .ok (.goto 7, 3) := by decide +kernel
theorem dX5_edge_92 : decode cX5_edge 92 = .ok (.aload_n 0, 1) := by decide +kernel
theorem dX5_edge_93 : decode cX5_edge 93 = .ok (.invokevirtual 71, 3) := by decide +kernel
theorem dX5_edge_96 : decode cX5_edge 96 = .ok (.iconst 0, 1) := by decide +kernel
theorem dX5_edge_97 : decode cX5_edge 97 = .ok (.ireturn, 1) := by decide +kernel
theorem dX5_edge_98 : decode cX5_edge 98 = .ok (.iconst 0, 1) := by decide +kernel
theorem dX5_edge_99 : decode cX5_edge 99 = .ok (.istore 5, 2) := by decide +kernel
theorem dX5_edge_101 : decode cX5_edge 101 = .ok (.iload 5, 2) := by decide +kernel

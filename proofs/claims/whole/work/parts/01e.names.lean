theorem dX5_edge_103 : decode cX5_edge 103 = .ok (.bipush 16, 2) := by decide +kernel
theorem dX5_edge_105 : decode cX5_edge 105 = .ok (.if_icmp .ge 46, 3) := by decide +kernel
theorem dX5_edge_108 : decode cX5_edge 108 = .ok (.lload_n 3, 1) := by decide +kernel
theorem dX5_edge_109 : decode cX5_edge 109 = .ok (.ldc2_w 47, 3) := by decide +kernel
theorem dX5_edge_112 : decode cX5_edge 112 = .ok (.lcmp, 1) := by decide +kernel
theorem dX5_edge_113 : decode cX5_edge 113 = .ok (.ifCond .gt 38, 3) := by decide +kernel
theorem dX5_edge_116 : decode cX5_edge 116 = .ok (.ldc2_w 45, 3) := by decide +kernel
theorem dX5_edge_119 : decode cX5_edge 119 = .ok (.lload_n 3, 1) := by decide +kernel
theorem dX5_edge_120 : decode cX5_edge 120 = .ok (.lmul, 1) := by decide +kernel
theorem dX5_edge_121 : decode cX5_edge 121 = .ok (.aload_n 0, 1) := by decide +kernel
theorem dX5_edge_122 : decode cX5_edge 122 = .ok (.getfield 49, 3) := by decide +kernel
theorem dX5_edge_125 : decode cX5_edge 125 = .ok (.ldc2_w 99, 3) := by decide +kernel
theorem dX5_edge_128 : decode cX5_edge 128 = .ok (.ldiv, 1) := by decide +kernel
theorem dX5_edge_129 : decode cX5_edge 129 = .ok (.ladd, 1) := by decide +kernel
theorem dX5_edge_130 : decode cX5_edge 130 = .ok (.iload 5, 2) := by decide +kernel
theorem dX5_edge_132 : decode cX5_edge 132 = .ok (.bipush 13, 2) := by decide +kernel
theorem dX5_edge_134 : decode cX5_edge 134 = .ok (.iadd, 1) := by decide +kernel
theorem dX5_edge_135 : decode cX5_edge 135 = .ok (.i2l, 1) := by decide +kernel
theorem dX5_edge_136 : decode cX5_edge 136 = .ok (.aload_n 0, 1) := by decide +kernel
theorem dX5_edge_137 : decode cX5_edge 137 = .ok (.getfield 49, 3) := by decide +kernel
theorem dX5_edge_140 : decode cX5_edge 140 = .ok (.lmul, 1) := by decide +kernel
theorem dX5_edge_141 : decode cX5_edge 141 = .ok (.lcmp, 1) := by decide +kernel
theorem dX5_edge_142 : decode cX5_edge 142 = .ok (.ifCond .lt 9, 3) := by decide +kernel
theorem dX5_edge_145 : decode cX5_edge 145 = .ok (.iinc 5 1, 3) := by decide +kernel
theorem dX5_edge_148 : decode cX5_edge 148 = .ok (.goto (-47), 3) := by decide +kernel
theorem dX5_edge_151 : decode cX5_edge 151 = .ok (.lload_n 3, 1) := by decide +kernel
theorem dX5_edge_152 : decode cX5_edge 152 = .ok (.ldc2_w 47, 3) := by decide +kernel
theorem dX5_edge_155 : decode cX5_edge 155 = .ok (.lcmp, 1) := by decide +kernel
theorem dX5_edge_156 : decode cX5_edge 156 = .ok (.ifCond .gt 36, 3) := by decide +kernel
theorem dX5_edge_159 : decode cX5_edge 159 = .ok (.ldc2_w 45, 3) := by decide +kernel
theorem dX5_edge_162 : decode cX5_edge 162 = .ok (.lload_n 3, 1) := by decide +kernel
theorem dX5_edge_163 : decode cX5_edge 163 = .ok (.lmul, 1) := by decide +kernel
theorem dX5_edge_164 : decode cX5_edge 164 = .ok (.aload_n 0, 1) := by decide +kernel
theorem dX5_edge_165 : decode cX5_edge 165 = .ok (.getfield 49, 3) := by decide +kernel
theorem dX5_edge_168 : decode cX5_edge 168 = .ok (.ldc2_w 99, 3) := by decide +kernel
theorem dX5_edge_171 : decode cX5_edge 171 = .ok (.ldiv, 1) := by decide +kernel
theorem dX5_edge_172 : decode cX5_edge 172 = .ok (.ladd, 1) := by decide +kernel
theorem dX5_edge_173 : decode cX5_edge 173 = .ok (.ldc2_w 101, 3) := by decide +kernel
theorem dX5_edge_176 : decode cX5_edge 176 = .ok (.aload_n 0, 1) := by decide +kernel
theorem dX5_edge_177 : decode cX5_edge 177 = .ok (.getfield 49, 3) := by decide +kernel
theorem dX5_edge_180 : decode cX5_edge 180 = .ok (.lmul, 1) := by decide +kernel
theorem dX5_edge_181 : decode cX5_edge 181 = .ok (.lcmp, 1) := by decide +kernel
theorem dX5_edge_182 : decode cX5_edge 182 = .ok (.ifCond .lt 10, 3) := by decide +kernel
theorem dX5_edge_185 : decode cX5_edge 185 = .ok (.iload 5, 2) := by decide +kernel
theorem dX5_edge_187 : decode cX5_edge 187 = .ok (.bipush 16, 2) := by decide +kernel
theorem dX5_edge_189 : decode cX5_edge 189 = .ok (.if_icmp .ne 14, 3) := by decide +kernel
theorem dX5_edge_192 : decode cX5_edge 192 = .ok (.aload_n 0, 1) := by decide +kernel
theorem dX5_edge_193 : decode cX5_edge 193 = .ok (.iconst (-1), 1) := by decide +kernel
theorem dX5_edge_194 : decode cX5_edge 194 = .ok (.putfield 7, 3) := by decide +kernel
theorem dX5_edge_197 : decode cX5_edge 197 = .ok (.aload_n 0, 1) := by decide +kernel
theorem dX5_edge_198 : decode cX5_edge 198 = .ok (.invokevirtual 71, 3) := by decide +kernel
theorem dX5_edge_201 : decode cX5_edge 201 = .ok (.iconst 0, 1) := by decide +kernel
theorem dX5_edge_202 : decode cX5_edge 202 = .ok (.ireturn, 1) := by decide +kernel
theorem dX5_edge_203 : decode cX5_edge 203 = .ok (.aload_n 0, 1) := by decide +kernel
theorem dX5_edge_204 : decode cX5_edge 204 = .ok (.getfield 13, 3) := by decide +kernel
theorem dX5_edge_207 : decode cX5_edge 207 = .ok (.aload_n 0, 1) := by decide +kernel
theorem dX5_edge_208 : decode cX5_edge 208 = .ok (.getfield 7, 3) := by decide +kernel
theorem dX5_edge_211 : decode cX5_edge 211 = .ok (.iload 5, 2) := by decide +kernel
theorem dX5_edge_213 : decode cX5_edge 213 = .ok (.iastore, 1) := by decide +kernel
theorem dX5_edge_214 : decode cX5_edge 214 = .ok (.aload_n 0, 1) := by decide +kernel
theorem dX5_edge_215 : decode cX5_edge 215 = .ok (.dup, 1) := by decide +kernel
theorem dX5_edge_216 : decode cX5_edge 216 = .ok (.getfield 7, 3) := by decide +kernel
theorem dX5_edge_219 : decode cX5_edge 219 = .ok (.iconst 1, 1) := by decide +kernel
theorem dX5_edge_220 : decode cX5_edge 220 = .ok (.iadd, 1) := by decide +kernel
theorem dX5_edge_221 : decode cX5_edge 221 = .ok (.putfield 7, 3) := by decide +kernel
theorem dX5_edge_224 : decode cX5_edge 224 = .ok (.aload_n 0, 1) := by decide +kernel
theorem dX5_edge_225 : decode cX5_edge 225 = .ok (.getfield 7, 3) := by decide +kernel
theorem dX5_edge_228 : decode cX5_edge 228 = .ok (.bipush 8, 2) := by decide +kernel
theorem dX5_edge_230 : decode cX5_edge 230 = .ok (.if_icmp .ge 8, 3) := by decide +kernel
theorem dX5_edge_233 : decode cX5_edge 233 = .ok (.aload_n 0, 1) := by decide +kernel
theorem dX5_edge_234 : decode cX5_edge 234 = .ok (.getfield 7, 3) := by decide +kernel
theorem dX5_edge_237 : decode cX5_edge 237 = .ok (.ireturn, 1) := by decide +kernel
theorem dX5_edge_238 : decode cX5_edge 238 = .ok (.aload_n 0, 1) := by decide +kernel
theorem dX5_edge_239 : decode cX5_edge 239 = .ok (.invokevirtual 103, 3) := by decide +kernel
theorem dX5_edge_242 : decode cX5_edge 242 = .ok (.bipush 8, 2) := by decide +kernel
theorem dX5_edge_244 : decode cX5_edge 244 = .ok (.ireturn, 1) := by decide +kernel
theorem dX5_nibble_0 : decode cX5_nibble 0 = .ok (.aload_n 0, 1) := by decide +kernel
theorem dX5_nibble_1 : decode cX5_nibble 1 = .ok (.aload_n 0, 1) := by decide +kernel
theorem dX5_nibble_2 : decode cX5_nibble 2 = .ok (.getfield 77, 3) := by decide +kernel
theorem dX5_nibble_5 : decode cX5_nibble 5 = .ok (.ifCond .eq 13, 3) := by decide +kernel
theorem dX5_nibble_8 : decode cX5_nibble 8 = .ok (.iload_n 1, 1) := by decide +kernel
theorem dX5_nibble_9 : decode cX5_nibble 9 = .ok (.ifCond .lt 9, 3) := by decide +kernel
theorem dX5_nibble_12 : decode cX5_nibble 12 = .ok (.iload_n 1, 1) := by decide +kernel
theorem dX5_nibble_13 : decode cX5_nibble 13 = .ok (.bipush 7, 2) := by decide +kernel
theorem dX5_nibble_15 : decode cX5_nibble 15 = .ok (.if_icmp .le 7, 3) := by decide +kernel
theorem dX5_nibble_18 : decode cX5_nibble 18 = .ok (.iconst 1, 1) := by decide +kernel
theorem dX5_nibble_19 : decode cX5_nibble 19 = .ok (.goto 4, 3) := by decide +kernel
theorem dX5_nibble_22 : decode cX5_nibble 22 = .ok (.iconst 0, 1) := by decide +kernel
theorem dX5_nibble_23 : decode cX5_nibble 23 = .ok (.putfield 42, 3) := by decide +kernel
theorem dX5_nibble_26 : decode cX5_nibble 26 = .ok (.aload_n 0, 1) := by decide +kernel
theorem dX5_nibble_27 : decode cX5_nibble 27 = .ok (.getfield 42, 3) := by decide +kernel
theorem dX5_nibble_30 : decode cX5_nibble 30 = .ok (.ifCond .le 7, 3) := by decide +kernel
theorem dX5_nibble_33 : decode cX5_nibble 33 = .ok (.iconst 0, 1) := by decide +kernel
theorem dX5_nibble_34 : decode cX5_nibble 34 = .ok (.goto 9, 3) := by decide +kernel
theorem dX5_nibble_37 : decode cX5_nibble 37 = .ok (.aload_n 0, 1) := by decide +kernel
theorem dX5_nibble_38 : decode cX5_nibble 38 = .ok (.getfield 17, 3) := by decide +kernel
theorem dX5_nibble_41 : decode cX5_nibble 41 = .ok (.iload_n 1, 1) := by decide +kernel
theorem dX5_nibble_42 : decode cX5_nibble 42 = .ok (.iaload, 1) := by decide +kernel
theorem dX5_nibble_43 : decode cX5_nibble 43 = .ok (.ireturn, 1) := by decide +kernel
set_option maxRecDepth 20000 in
theorem ggX5_check_X5_turned : GoodIn wsX5_check wsX5_turned := goodIn_r _ [5] (by decide +kernel) (by decide +kernel)
set_option maxRecDepth 20000 in
theorem gX5_check_X5_turned : GoodIn wsX5_check (va_wsS RX5 67 yX5_turned wsX5_turned) := goodIn_app (goodIn_of _ (by decide +kernel)) ggX5_check_X5_turned
theorem dX5_check_0 : decode cX5_check 0 = .ok (.aload_n 0, 1) := by decide +kernel
theorem dX5_check_1 : decode cX5_check 1 = .ok (.iconst 0, 1) := by decide +kernel
theorem dX5_check_2 : decode cX5_check 2 = .ok (.putfield 42, 3) := by decide +kernel
theorem dX5_check_5 : decode cX5_check 5 = .ok (.iconst 5, 1) := by decide +kernel
theorem dX5_check_6 : decode cX5_check 6 = .ok (.istore_n 2, 1) := by decide +kernel
theorem dX5_check_7 : decode cX5_check 7 = .ok (.iconst 0, 1) := by decide +kernel
theorem dX5_check_8 : decode cX5_check 8 = .ok (.istore_n 3, 1) := by decide +kernel
theorem dX5_check_9 : decode cX5_check 9 = .ok (.bipush 7, 2) := by decide +kernel
theorem dX5_check_11 : decode cX5_check 11 = .ok (.istore 4, 2) := by decide +kernel
theorem dX5_check_13 : decode cX5_check 13 = .ok (.iload 4, 2) := by decide +kernel
theorem dX5_check_15 : decode cX5_check 15 = .ok (.ifCond .lt 47, 3) := by decide +kernel
theorem dX5_check_18 : decode cX5_check 18 = .ok (.iload_n 1, 1) := by decide +kernel
theorem dX5_check_19 : decode cX5_check 19 = .ok (.iconst 4, 1) := by decide +kernel
theorem dX5_check_20 : decode cX5_check 20 = .ok (.iload 4, 2) := by decide +kernel
theorem dX5_check_22 : decode cX5_check 22 = .ok (.imul, 1) := by decide +kernel
theorem dX5_check_23 : decode cX5_check 23 = .ok (.ishr, 1) := by decide +kernel
theorem dX5_check_24 : decode cX5_check 24 = .ok (.bipush 15, 2) := by decide +kernel
theorem dX5_check_26 : decode cX5_check 26 = .ok (.iand, 1) := by decide +kernel
theorem dX5_check_27 : decode cX5_check 27 = .ok (.istore 5, 2) := by decide +kernel
theorem dX5_check_29 : decode cX5_check 29 = .ok (.iload_n 3, 1) := by decide +kernel
theorem dX5_check_30 : decode cX5_check 30 = .ok (.ifCond .ne 8, 3) := by decide +kernel
theorem dX5_check_33 : decode cX5_check 33 = .ok (.iload 5, 2) := by decide +kernel
theorem dX5_check_35 : decode cX5_check 35 = .ok (.ifCond .le 7, 3) := by decide +kernel
theorem dX5_check_38 : decode cX5_check 38 = .ok (.iconst 1, 1) := by decide +kernel
theorem dX5_check_39 : decode cX5_check 39 = .ok (.goto 4, 3) := by decide +kernel
theorem dX5_check_42 : decode cX5_check 42 = .ok (.iconst 0, 1) := by decide +kernel
theorem dX5_check_43 : decode cX5_check 43 = .ok (.istore_n 3, 1) := by decide +kernel
theorem dX5_check_44 : decode cX5_check 44 = .ok (.iload_n 3, 1) := by decide +kernel
theorem dX5_check_45 : decode cX5_check 45 = .ok (.ifCond .eq 11, 3) := by decide +kernel
theorem dX5_check_48 : decode cX5_check 48 = .ok (.iload_n 2, 1) := by decide +kernel
theorem dX5_check_49 : decode cX5_check 49 = .ok (.invokestatic 67, 3) := by decide +kernel
theorem dX5_check_52 : decode cX5_check 52 = .ok (.iload 5, 2) := by decide +kernel
theorem dX5_check_54 : decode cX5_check 54 = .ok (.ixor, 1) := by decide +kernel
theorem dX5_check_55 : decode cX5_check 55 = .ok (.istore_n 2, 1) := by decide +kernel
theorem dX5_check_56 : decode cX5_check 56 = .ok (.iinc 4 (-1), 3) := by decide +kernel
theorem dX5_check_59 : decode cX5_check 59 = .ok (.goto (-46), 3) := by decide +kernel
theorem dX5_check_62 : decode cX5_check 62 = .ok (.iload_n 2, 1) := by decide +kernel
theorem dX5_check_63 : decode cX5_check 63 = .ok (.invokestatic 67, 3) := by decide +kernel
theorem dX5_check_66 : decode cX5_check 66 = .ok (.ireturn, 1) := by decide +kernel
theorem dX5_slow_0 : decode cX5_slow 0 = .ok (.aload_n 0, 1) := by decide +kernel
theorem dX5_slow_1 : decode cX5_slow 1 = .ok (.iconst 0, 1) := by decide +kernel
theorem dX5_slow_2 : decode cX5_slow 2 = .ok (.putfield 42, 3) := by decide +kernel
theorem dX5_slow_5 : decode cX5_slow 5 = .ok (.iload_n 1, 1) := by decide +kernel
theorem dX5_slow_6 : decode cX5_slow 6 = .ok (.iconst (-1), 1) := by decide +kernel
theorem dX5_slow_7 : decode cX5_slow 7 = .ok (.if_icmp .ne 8, 3) := by decide +kernel
theorem dX5_slow_10 : decode cX5_slow 10 = .ok (.aload_n 0, 1) := by decide +kernel
theorem dX5_slow_11 : decode cX5_slow 11 = .ok (.getfield 74, 3) := by decide +kernel
theorem dX5_slow_14 : decode cX5_slow 14 = .ok (.ireturn, 1) := by decide +kernel
theorem dX5_slow_15 : decode cX5_slow 15 = .ok (.iload_n 1, 1) := by decide +kernel
theorem dX5_slow_16 : decode cX5_slow 16 = .ok (.ifCond .lt 11, 3) := by decide +kernel
theorem dX5_slow_19 : decode cX5_slow 19 = .ok (.iload_n 1, 1) := by decide +kernel
theorem dX5_slow_20 : decode cX5_slow 20 = .ok (.aload_n 0, 1) := by decide +kernel
theorem dX5_slow_21 : decode cX5_slow 21 = .ok (.getfield 74, 3) := by decide +kernel
theorem dX5_slow_24 : decode cX5_slow 24 = .ok (.if_icmp .lt 7, 3) := by decide +kernel
theorem dX5_slow_27 : decode cX5_slow 27 = .ok (.iconst (-1), 1) := by decide +kernel
theorem dX5_slow_28 : decode cX5_slow 28 = .ok (.goto 9, 3) := by decide +kernel
theorem dX5_slow_31 : decode cX5_slow 31 = .ok (.aload_n 0, 1) := by decide +kernel
theorem dX5_slow_32 : decode cX5_slow 32 = .ok (.getfield 33, 3) := by decide +kernel
theorem dX5_slow_35 : decode cX5_slow 35 = .ok (.iload_n 1, 1) := by decide +kernel
theorem dX5_slow_36 : decode cX5_slow 36 = .ok (.iaload, 1) := by decide +kernel
theorem dX5_slow_37 : decode cX5_slow 37 = .ok (.ireturn, 1) := by decide +kernel
theorem dX5_row_0 : decode cX5_row 0 = .ok (.aload_n 0, 1) := by decide +kernel
theorem dX5_row_1 : decode cX5_row 1 = .ok (.iconst 0, 1) := by decide +kernel
theorem dX5_row_2 : decode cX5_row 2 = .ok (.putfield 42, 3) := by decide +kernel
theorem dX5_row_5 : decode cX5_row 5 = .ok (.iload_n 1, 1) := by decide +kernel
theorem dX5_row_6 : decode cX5_row 6 = .ok (.iconst (-1), 1) := by decide +kernel
theorem dX5_row_7 : decode cX5_row 7 = .ok (.if_icmp .ne 12, 3) := by decide +kernel
theorem dX5_row_10 : decode cX5_row 10 = .ok (.iload_n 2, 1) := by decide +kernel
theorem dX5_row_11 : decode cX5_row 11 = .ok (.ifCond .ne 8, 3) := by decide +kernel
theorem dX5_row_14 : decode cX5_row 14 = .ok (.aload_n 0, 1) := by decide +kernel
theorem dX5_row_15 : decode cX5_row 15 = .ok (.getfield 80, 3) := by decide +kernel
theorem dX5_row_18 : decode cX5_row 18 = .ok (.ireturn, 1) := by decide +kernel
theorem dX5_row_19 : decode cX5_row 19 = .ok (.iload_n 1, 1) := by decide +kernel
theorem dX5_row_20 : decode cX5_row 20 = .ok (.ifCond .lt 11, 3) := by decide +kernel
theorem dX5_row_23 : decode cX5_row 23 = .ok (.iload_n 1, 1) := by decide +kernel
theorem dX5_row_24 : decode cX5_row 24 = .ok (.aload_n 0, 1) := by decide +kernel
theorem dX5_row_25 : decode cX5_row 25 = .ok (.getfield 80, 3) := by decide +kernel
theorem dX5_row_28 : decode cX5_row 28 = .ok (.if_icmp .lt 5, 3) := by decide +kernel
theorem dX5_row_31 : decode cX5_row 31 = .ok (.iconst (-1), 1) := by decide +kernel
theorem dX5_row_32 : decode cX5_row 32 = .ok (.ireturn, 1) := by decide +kernel
theorem dX5_row_33 : decode cX5_row 33 = .ok (.iload_n 2, 1) := by decide +kernel
theorem dX5_row_34 : decode cX5_row 34 = .ok (.ifCond .lt 8, 3) := by decide +kernel
theorem dX5_row_37 : decode cX5_row 37 = .ok (.iload_n 2, 1) := by decide +kernel
theorem dX5_row_38 : decode cX5_row 38 = .ok (.iconst 2, 1) := by decide +kernel
theorem dX5_row_39 : decode cX5_row 39 = .ok (.if_icmp .le 6, 3) := by decide +kernel
theorem dX5_row_42 : decode cX5_row 42 = .ok (.bipush (-2), 2) := by decide +kernel
theorem dX5_row_44 : decode cX5_row 44 = .ok (.ireturn, 1) := by decide +kernel
theorem dX5_row_45 : decode cX5_row 45 = .ok (.iload_n 2, 1) := by decide +kernel
theorem dX5_row_46 : decode cX5_row 46 = .ok (.ifCond .ne 12, 3) := by decide +kernel
theorem dX5_row_49 : decode cX5_row 49 = .ok (.aload_n 0, 1) := by decide +kernel
theorem dX5_row_50 : decode cX5_row 50 = .ok (.getfield 20, 3) := by decide +kernel
theorem dX5_row_53 : decode cX5_row 53 = .ok (.iload_n 1, 1) := by decide +kernel
theorem dX5_row_54 : decode cX5_row 54 = .ok (.iaload, 1) := by decide +kernel
theorem dX5_row_55 : decode cX5_row 55 = .ok (.goto 31, 3) := by decide +kernel
theorem dX5_row_58 : decode cX5_row 58 = .ok (.iload_n 2, 1) := by decide +kernel
theorem dX5_row_59 : decode cX5_row 59 = .ok (.iconst 1, 1) := by decide +kernel
theorem dX5_row_60 : decode cX5_row 60 = .ok (.if_icmp .ne 12, 3) := by decide +kernel
theorem dX5_row_63 : decode cX5_row 63 = .ok (.aload_n 0, 1) := by decide +kernel
theorem dX5_row_64 : decode cX5_row 64 = .ok (.getfield 23, 3) := by decide +kernel
theorem dX5_row_67 : decode cX5_row 67 = .ok (.iload_n 1, 1) := by decide +kernel
theorem dX5_row_68 : decode cX5_row 68 = .ok (.iaload, 1) := by decide +kernel
theorem dX5_row_69 : decode cX5_row 69 = .ok (.goto 17, 3) := by decide +kernel
theorem dX5_row_72 : decode cX5_row 72 = .ok (.aload_n 0, 1) := by decide +kernel
theorem dX5_row_73 : decode cX5_row 73 = .ok (.getfield 26, 3) := by decide +kernel
theorem dX5_row_76 : decode cX5_row 76 = .ok (.iload_n 1, 1) := by decide +kernel
theorem dX5_row_77 : decode cX5_row 77 = .ok (.baload, 1) := by decide +kernel
theorem dX5_row_78 : decode cX5_row 78 = .ok (.ifCond .eq 7, 3) := by decide +kernel
theorem dX5_row_81 : decode cX5_row 81 = .ok (.iconst 1, 1) := by decide +kernel
theorem dX5_row_82 : decode cX5_row 82 = .ok (.goto 4, 3) := by decide +kernel
theorem dX5_row_85 : decode cX5_row 85 = .ok (.iconst 0, 1) := by decide +kernel
theorem dX5_row_86 : decode cX5_row 86 = .ok (.ireturn, 1) := by decide +kernel
set_option maxRecDepth 20000 in
theorem ggX5_calibrate_X5_fits : GoodIn wsX5_calibrate wsX5_fits := goodIn_r _ [7, 8, 2, 9, 10, 11, 12, 13, 14, 15, 16, 17, 18, 19, 20, 21, 22, 23, 24, 25, 26, 27, 28, 29, 30, 31, 32, 33, 34, 35, 36, 37, 38, 39] (by decide +kernel) (by decide +kernel)
set_option maxRecDepth 20000 in
theorem gX5_calibrate_X5_fits : GoodIn wsX5_calibrate (wsV RX5 95 RX5 yX5_fits wsX5_fits) := goodIn_app (goodIn_of _ (by decide +kernel)) ggX5_calibrate_X5_fits
theorem dX5_calibrate_0 : decode cX5_calibrate 0 = .ok (.aload_n 0, 1) := by decide +kernel
theorem dX5_calibrate_1 : decode cX5_calibrate 1 = .ok (.lload_n 1, 1) := by decide +kernel
theorem dX5_calibrate_2 : decode cX5_calibrate 2 = .ok (.lconst 0, 1) := by decide +kernel
theorem dX5_calibrate_3 : decode cX5_calibrate 3 = .ok (.lcmp, 1) := by decide +kernel
theorem dX5_calibrate_4 : decode cX5_calibrate 4 = .ok (.ifCond .ne 7, 3) := by decide +kernel
theorem dX5_calibrate_7 : decode cX5_calibrate 7 = .ok (.iconst 1, 1) := by decide +kernel
theorem dX5_calibrate_8 : decode cX5_calibrate 8 = .ok (.goto 4, 3) := by decide +kernel
theorem dX5_calibrate_11 : decode cX5_calibrate 11 = .ok (.iconst 0, 1) := by decide +kernel
theorem dX5_calibrate_12 : decode cX5_calibrate 12 = .ok (.putfield 42, 3) := by decide +kernel
theorem dX5_calibrate_15 : decode cX5_calibrate 15 = .ok (.aload_n 0, 1) := by decide +kernel
theorem dX5_calibrate_16 : decode cX5_calibrate 16 = .ok (.getfield 42, 3) := by decide +kernel
theorem dX5_calibrate_19 : decode cX5_calibrate 19 = .ok (.ifCond .gt 11, 3) := by decide +kernel
theorem dX5_calibrate_22 : decode cX5_calibrate 22 = .ok (.aload_n 0, 1) := by decide +kernel
theorem dX5_calibrate_23 : decode cX5_calibrate 23 = .ok (.lload_n 1, 1) := by decide +kernel
theorem dX5_calibrate_24 : decode cX5_calibrate 24 = .ok (.invokevirtual 95, 3) := by decide +kernel
theorem dX5_calibrate_27 : decode cX5_calibrate 27 = .ok (.ifCond .ne 5, 3) := by decide +kernel
theorem dX5_calibrate_30 : decode cX5_calibrate 30 = .ok (.iconst 0, 1) := by decide +kernel
theorem dX5_calibrate_31 : decode cX5_calibrate 31 = .ok (.ireturn, 1) := by decide +kernel
theorem dX5_calibrate_32 : decode cX5_calibrate 32 = .ok (.ldc2_w 47, 3) := by decide +kernel
theorem dX5_calibrate_35 : decode cX5_calibrate 35 = .ok (.lload_n 1, 1) := by decide +kernel
theorem dX5_calibrate_36 : decode cX5_calibrate 36 = .ok (.ldiv, 1) := by decide +kernel
theorem dX5_calibrate_37 : decode cX5_calibrate 37 = .ok (.l2i, 1) := by decide +kernel
theorem dX5_calibrate_38 : decode cX5_calibrate 38 = .ok (.ireturn, 1) := by decide +kernel
theorem dX5_parity_0 : decode cX5_parity 0 = .ok (.aload_n 0, 1) := by decide +kernel
theorem dX5_parity_1 : decode cX5_parity 1 = .ok (.iconst 0, 1) := by decide +kernel
theorem dX5_parity_2 : decode cX5_parity 2 = .ok (.putfield 42, 3) := by decide +kernel
theorem dX5_parity_5 : decode cX5_parity 5 = .ok (.iconst 0, 1) := by decide +kernel
theorem dX5_parity_6 : decode cX5_parity 6 = .ok (.istore_n 2, 1) := by decide +kernel
theorem dX5_parity_7 : decode cX5_parity 7 = .ok (.iconst 0, 1) := by decide +kernel
theorem dX5_parity_8 : decode cX5_parity 8 = .ok (.istore_n 3, 1) := by decide +kernel
theorem dX5_parity_9 : decode cX5_parity 9 = .ok (.iload_n 3, 1) := by decide +kernel
theorem dX5_parity_10 : decode cX5_parity 10 = .ok (.bipush 32, 2) := by decide +kernel
theorem dX5_parity_12 : decode cX5_parity 12 = .ok (.if_icmp .ge 17, 3) := by decide +kernel
theorem dX5_parity_15 : decode cX5_parity 15 = .ok (.iload_n 2, 1) := by decide +kernel
theorem dX5_parity_16 : decode cX5_parity 16 = .ok (.iload_n 1, 1) := by decide +kernel
theorem dX5_parity_17 : decode cX5_parity 17 = .ok (.iload_n 3, 1) := by decide +kernel
theorem dX5_parity_18 : decode cX5_parity 18 = .ok (.ishr, 1) := by decide +kernel
theorem dX5_parity_19 : decode cX5_parity 19 = .ok (.iconst 1, 1) := by decide +kernel
theorem dX5_parity_20 : decode cX5_parity 20 = .ok (.iand, 1) := by decide +kernel
theorem dX5_parity_21 : decode cX5_parity 21 = .ok (.ixor, 1) := by decide +kernel
theorem dX5_parity_22 : decode cX5_parity 22 = .ok (.istore_n 2, 1) := by decide +kernel
theorem dX5_parity_23 : decode cX5_parity 23 = .ok (.iinc 3 1, 3) := by decide +kernel
theorem dX5_parity_26 : decode cX5_parity 26 = .ok (.goto (-17), 3) := by decide +kernel
theorem dX5_parity_29 : decode cX5_parity 29 = .ok (.iload_n 2, 1) := by decide +kernel
theorem dX5_parity_30 : decode cX5_parity 30 = .ok (.ireturn, 1) := by decide +kernel
theorem dX5_bounce_0 : decode cX5_bounce 0 = .ok (.aload_n 0, 1) := by decide +kernel
theorem dX5_bounce_1 : decode cX5_bounce 1 = .ok (.iconst 0, 1) := by decide +kernel
theorem dX5_bounce_2 : decode cX5_bounce 2 = .ok (.putfield 42, 3) := by decide +kernel
theorem dX5_bounce_5 : decode cX5_bounce 5 = .ok (.lload_n 2, 1) := by decide +kernel
theorem dX5_bounce_6 : decode cX5_bounce 6 = .ok (.aload_n 0, 1) := by decide +kernel
theorem dX5_bounce_7 : decode cX5_bounce 7 = .ok (.getfield 106, 3) := by decide +kernel
theorem dX5_bounce_10 : decode cX5_bounce 10 = .ok (.lcmp, 1) := by decide +kernel
theorem dX5_bounce_11 : decode cX5_bounce 11 = .ok (.ifCond .lt 11, 3) := by decide +kernel
theorem dX5_bounce_14 : decode cX5_bounce 14 = .ok (.lload_n 2, 1) := by decide +kernel
theorem dX5_bounce_15 : decode cX5_bounce 15 = .ok (.ldc2_w 87, 3) := by decide +kernel
theorem dX5_bounce_18 : decode cX5_bounce 18 = .ok (.lcmp, 1) := by decide +kernel
theorem dX5_bounce_19 : decode cX5_bounce 19 = .ok (.ifCond .le 6, 3) := by decide +kernel
theorem dX5_bounce_22 : decode cX5_bounce 22 = .ok (.bipush (-2), 2) := by decide +kernel
theorem dX5_bounce_24 : decode cX5_bounce 24 = .ok (.ireturn, 1) := by decide +kernel
theorem dX5_bounce_25 : decode cX5_bounce 25 = .ok (.aload_n 0, 1) := by decide +kernel
theorem dX5_bounce_26 : decode cX5_bounce 26 = .ok (.lload_n 2, 1) := by decide +kernel
theorem dX5_bounce_27 : decode cX5_bounce 27 = .ok (.putfield 106, 3) := by decide +kernel
theorem dX5_bounce_30 : decode cX5_bounce 30 = .ok (.aload_n 0, 1) := by decide +kernel
theorem dX5_bounce_31 : decode cX5_bounce 31 = .ok (.iload_n 1, 1) := by decide +kernel
theorem dX5_bounce_32 : decode cX5_bounce 32 = .ok (.aload_n 0, 1) := by decide +kernel
theorem dX5_bounce_33 : decode cX5_bounce 33 = .ok (.getfield 109, 3) := by decide +kernel
theorem dX5_bounce_36 : decode cX5_bounce 36 = .ok (.if_icmp .ne 10, 3) := by decide +kernel
theorem dX5_bounce_39 : decode cX5_bounce 39 = .ok (.aload_n 0, 1) := by decide +kernel
theorem dX5_bounce_40 : decode cX5_bounce 40 = .ok (.getfield 112, 3) := by decide +kernel
theorem dX5_bounce_43 : decode cX5_bounce 43 = .ok (.goto 4, 3) := by decide +kernel
theorem dX5_bounce_46 : decode cX5_bounce 46 = .ok (.lload_n 2, 1) := by decide +kernel
theorem dX5_bounce_47 : decode cX5_bounce 47 = .ok (.putfield 112, 3) := by decide +kernel
theorem dX5_bounce_50 : decode cX5_bounce 50 = .ok (.aload_n 0, 1) := by decide +kernel
theorem dX5_bounce_51 : decode cX5_bounce 51 = .ok (.iload_n 1, 1) := by decide +kernel
theorem dX5_bounce_52 : decode cX5_bounce 52 = .ok (.putfield 109, 3) := by decide +kernel
theorem dX5_bounce_55 : decode cX5_bounce 55 = .ok (.iload_n 1, 1) := by decide +kernel
theorem dX5_bounce_56 : decode cX5_bounce 56 = .ok (.aload_n 0, 1) := by decide +kernel
theorem dX5_bounce_57 : decode cX5_bounce 57 = .ok (.getfield 115, 3) := by decide +kernel
theorem dX5_bounce_60 : decode cX5_bounce 60 = .ok (.if_icmp .eq 20, 3) := by decide +kernel
theorem dX5_bounce_63 : decode cX5_bounce 63 = .ok (.lload_n 2, 1) := by decide +kernel
theorem dX5_bounce_64 : decode cX5_bounce 64 = .ok (.aload_n 0, 1) := by decide +kernel
theorem dX5_bounce_65 : decode cX5_bounce 65 = .ok (.getfield 112, 3) := by decide +kernel
theorem dX5_bounce_68 : decode cX5_bounce 68 = .ok (.ldc2_w 118, 3) := by decide +kernel
theorem dX5_bounce_71 : decode cX5_bounce 71 = .ok (.ladd, 1) := by decide +kernel
theorem dX5_bounce_72 : decode cX5_bounce 72 = .ok (.lcmp, 1) := by decide +kernel
theorem dX5_bounce_73 : decode cX5_bounce 73 = .ok (.ifCond .lt 7, 3) := by decide +kernel
theorem dX5_bounce_76 : decode cX5_bounce 76 = .ok (.iconst 1, 1) := by decide +kernel
theorem dX5_bounce_77 : decode cX5_bounce 77 = .ok (.goto 4, 3) := by decide +kernel
theorem dX5_bounce_80 : decode cX5_bounce 80 = .ok (.iconst 0, 1) := by decide +kernel
theorem dX5_bounce_81 : decode cX5_bounce 81 = .ok (.istore 4, 2) := by decide +kernel
theorem dX5_bounce_83 : decode cX5_bounce 83 = .ok (.aload_n 0, 1) := by decide +kernel
theorem dX5_bounce_84 : decode cX5_bounce 84 = .ok (.iload 4, 2) := by decide +kernel
theorem dX5_bounce_86 : decode cX5_bounce 86 = .ok (.ifCond .eq 7, 3) := by decide +kernel
theorem dX5_bounce_89 : decode cX5_bounce 89 = .ok (.iload_n 1, 1) := by decide +kernel
theorem dX5_bounce_90 : decode cX5_bounce 90 = .ok (.goto 7, 3) := by decide +kernel
theorem dX5_bounce_93 : decode cX5_bounce 93 = .ok (.aload_n 0, 1) := by decide +kernel
theorem dX5_bounce_94 : decode cX5_bounce 94 = .ok (.getfield 115, 3) := by decide +kernel
theorem dX5_bounce_97 : decode cX5_bounce 97 = .ok (.putfield 115, 3) := by decide +kernel
theorem dX5_bounce_100 : decode cX5_bounce 100 = .ok (.iload 4, 2) := by decide +kernel
theorem dX5_bounce_102 : decode cX5_bounce 102 = .ok (.ifCond .eq 7, 3) := by decide +kernel
theorem dX5_bounce_105 : decode cX5_bounce 105 = .ok (.iconst 1, 1) := by decide +kernel
theorem dX5_bounce_106 : decode cX5_bounce 106 = .ok (.goto 4, 3) := by decide +kernel
theorem dX5_bounce_109 : decode cX5_bounce 109 = .ok (.iconst 0, 1) := by decide +kernel
theorem dX5_bounce_110 : decode cX5_bounce 110 = .ok (.ireturn, 1) := by decide +kernel
theorem dX5_place_0 : decode cX5_place 0 = .ok (.iload_n 0, 1) := by decide +kernel
theorem dX5_place_1 : decode cX5_place 1 = .ok (.ifCond .eq 13, 3) := by decide +kernel
theorem dX5_place_4 : decode cX5_place 4 = .ok (.iload_n 1, 1) := by decide +kernel
theorem dX5_place_5 : decode cX5_place 5 = .ok (.ifCond .eq 7, 3) := by decide +kernel
theorem dX5_place_8 : decode cX5_place 8 = .ok (.iconst 2, 1) := by decide +kernel
theorem dX5_place_9 : decode cX5_place 9 = .ok (.goto 4, 3) := by decide +kernel
theorem dX5_place_12 : decode cX5_place 12 = .ok (.iconst 1, 1) := by decide +kernel
theorem dX5_place_13 : decode cX5_place 13 = .ok (.ireturn, 1) := by decide +kernel
theorem dX5_place_14 : decode cX5_place 14 = .ok (.iload_n 1, 1) := by decide +kernel
theorem dX5_place_15 : decode cX5_place 15 = .ok (.ifCond .eq 7, 3) := by decide +kernel
theorem dX5_place_18 : decode cX5_place 18 = .ok (.iconst 3, 1) := by decide +kernel
theorem dX5_place_19 : decode cX5_place 19 = .ok (.goto 4, 3) := by decide +kernel
theorem dX5_place_22 : decode cX5_place 22 = .ok (.iconst 0, 1) := by decide +kernel
theorem dX5_place_23 : decode cX5_place 23 = .ok (.ireturn, 1) := by decide +kernel
set_option maxRecDepth 20000 in
theorem ggX5_turn_X5_place : GoodIn wsX5_turn wsX5_place := goodIn_r _ [8] (by decide +kernel) (by decide +kernel)
set_option maxRecDepth 20000 in
theorem gX5_turn_X5_place : GoodIn wsX5_turn (va_wsS RX5 120 yX5_place wsX5_place) := goodIn_app (goodIn_of _ (by decide +kernel)) ggX5_turn_X5_place
set_option maxRecDepth 20000 in
theorem ggX5_turn_X5_fault : GoodIn wsX5_turn wsX5_fault := goodIn_r _ [12, 13, 14, 15, 16, 17, 18, 19, 20, 21, 22, 23, 24, 25, 26, 27, 28, 29, 30, 31, 32, 33, 34, 35, 36, 37, 38, 39, 40, 41, 42, 43] (by decide +kernel) (by decide +kernel)
set_option maxRecDepth 20000 in
theorem gX5_turn_X5_fault : GoodIn wsX5_turn (wsV RX5 71 RX5 yX5_fault wsX5_fault) := goodIn_app (goodIn_of _ (by decide +kernel)) ggX5_turn_X5_fault
theorem dX5_turn_0 : decode cX5_turn 0 = .ok (.aload_n 0, 1) := by decide +kernel
theorem dX5_turn_1 : decode cX5_turn 1 = .ok (.iconst 0, 1) := by decide +kernel
theorem dX5_turn_2 : decode cX5_turn 2 = .ok (.putfield 42, 3) := by decide +kernel
theorem dX5_turn_5 : decode cX5_turn 5 = .ok (.iload_n 1, 1) := by decide +kernel
theorem dX5_turn_6 : decode cX5_turn 6 = .ok (.iload_n 2, 1) := by decide +kernel
theorem dX5_turn_7 : decode cX5_turn 7 = .ok (.invokestatic 120, 3) := by decide +kernel
theorem dX5_turn_10 : decode cX5_turn 10 = .ok (.aload_n 0, 1) := by decide +kernel
theorem dX5_turn_11 : decode cX5_turn 11 = .ok (.getfield 124, 3) := by decide +kernel
theorem dX5_turn_14 : decode cX5_turn 14 = .ok (.aload_n 0, 1) := by decide +kernel
theorem dX5_turn_15 : decode cX5_turn 15 = .ok (.getfield 127, 3) := by decide +kernel
theorem dX5_turn_18 : decode cX5_turn 18 = .ok (.invokestatic 120, 3) := by decide +kernel
theorem dX5_turn_21 : decode cX5_turn 21 = .ok (.isub, 1) := by decide +kernel
theorem dX5_turn_22 : decode cX5_turn 22 = .ok (.iconst 3, 1) := by decide +kernel
theorem dX5_turn_23 : decode cX5_turn 23 = .ok (.iand, 1) := by decide +kernel
theorem dX5_turn_24 : decode cX5_turn 24 = .ok (.istore_n 3, 1) := by decide +kernel
theorem dX5_turn_25 : decode cX5_turn 25 = .ok (.aload_n 0, 1) := by decide +kernel
theorem dX5_turn_26 : decode cX5_turn 26 = .ok (.iload_n 1, 1) := by decide +kernel
theorem dX5_turn_27 : decode cX5_turn 27 = .ok (.putfield 124, 3) := by decide +kernel
theorem dX5_turn_30 : decode cX5_turn 30 = .ok (.aload_n 0, 1) := by decide +kernel
theorem dX5_turn_31 : decode cX5_turn 31 = .ok (.iload_n 2, 1) := by decide +kernel
theorem dX5_turn_32 : decode cX5_turn 32 = .ok (.putfield 127, 3) := by decide +kernel
theorem dX5_turn_35 : decode cX5_turn 35 = .ok (.iload_n 3, 1) := by decide +kernel
theorem dX5_turn_36 : decode cX5_turn 36 = .ok (.iconst 2, 1) := by decide +kernel
theorem dX5_turn_37 : decode cX5_turn 37 = .ok (.if_icmp .ne 7, 3) := by decide +kernel
theorem dX5_turn_40 : decode cX5_turn 40 = .ok (.aload_n 0, 1) := by decide +kernel
theorem dX5_turn_41 : decode cX5_turn 41 = .ok (.invokevirtual 71, 3) := by decide +kernel
theorem dX5_turn_44 : decode cX5_turn 44 = .ok (.iload_n 3, 1) := by decide +kernel
theorem dX5_turn_45 : decode cX5_turn 45 = .ok (.iconst 1, 1) := by decide +kernel
theorem dX5_turn_46 : decode cX5_turn 46 = .ok (.if_icmp .ne 13, 3) := by decide +kernel
theorem dX5_turn_49 : decode cX5_turn 49 = .ok (.aload_n 0, 1) := by decide +kernel
theorem dX5_turn_50 : decode cX5_turn 50 = .ok (.dup, 1) := by decide +kernel
theorem dX5_turn_51 : decode cX5_turn 51 = .ok (.getfield 130, 3) := by decide +kernel
theorem dX5_turn_54 : decode cX5_turn 54 = .ok (.iconst 1, 1) := by decide +kernel
theorem dX5_turn_55 : decode cX5_turn 55 = .ok (.iadd, 1) := by decide +kernel
theorem dX5_turn_56 : decode cX5_turn 56 = .ok (.putfield 130, 3) := by decide +kernel
theorem dX5_turn_59 : decode cX5_turn 59 = .ok (.iload_n 3, 1) := by decide +kernel
theorem dX5_turn_60 : decode cX5_turn 60 = .ok (.iconst 3, 1) := by decide +kernel
theorem dX5_turn_61 : decode cX5_turn 61 = .ok (.if_icmp .ne 13, 3) := by decide +kernel
theorem dX5_turn_64 : decode cX5_turn 64 = .ok (.aload_n 0, 1) := by decide +kernel
theorem dX5_turn_65 : decode cX5_turn 65 = .ok (.dup, 1) := by decide +kernel
theorem dX5_turn_66 : decode cX5_turn 66 = .ok (.getfield 130, 3) := by decide +kernel
theorem dX5_turn_69 : decode cX5_turn 69 = .ok (.iconst 1, 1) := by decide +kernel
theorem dX5_turn_70 : decode cX5_turn 70 = .ok (.isub, 1) := by decide +kernel
theorem dX5_turn_71 : decode cX5_turn 71 = .ok (.putfield 130, 3) := by decide +kernel
theorem dX5_turn_74 : decode cX5_turn 74 = .ok (.aload_n 0, 1) := by decide +kernel
theorem dX5_turn_75 : decode cX5_turn 75 = .ok (.getfield 130, 3) := by decide +kernel
theorem dX5_turn_78 : decode cX5_turn 78 = .ok (.ireturn, 1) := by decide +kernel
theorem dX5_faults_0 : decode cX5_faults 0 = .ok (.aload_n 0, 1) := by decide +kernel
theorem dX5_faults_1 : decode cX5_faults 1 = .ok (.iconst 0, 1) := by decide +kernel
theorem dX5_faults_2 : decode cX5_faults 2 = .ok (.putfield 42, 3) := by decide +kernel
theorem dX5_faults_5 : decode cX5_faults 5 = .ok (.aload_n 0, 1) := by decide +kernel
theorem dX5_faults_6 : decode cX5_faults 6 = .ok (.getfield 54, 3) := by decide +kernel
theorem dX5_faults_9 : decode cX5_faults 9 = .ok (.ireturn, 1) := by decide +kernel
theorem dX5_marked_0 : decode cX5_marked 0 = .ok (.aload_n 0, 1) := by decide +kernel
theorem dX5_marked_1 : decode cX5_marked 1 = .ok (.iconst 0, 1) := by decide +kernel
theorem dX5_marked_2 : decode cX5_marked 2 = .ok (.putfield 42, 3) := by decide +kernel
theorem dX5_marked_5 : decode cX5_marked 5 = .ok (.aload_n 0, 1) := by decide +kernel
theorem dX5_marked_6 : decode cX5_marked 6 = .ok (.getfield 60, 3) := by decide +kernel
theorem dX5_marked_9 : decode cX5_marked 9 = .ok (.ireturn, 1) := by decide +kernel
theorem dJx00060_init_a7421_0 : decode cJx00060_init_a7421 0 = .ok (.aload_n 0, 1) := by decide +kernel
theorem dJx00060_init_a7421_1 : decode cJx00060_init_a7421 1 = .ok (.aload_n 1, 1) := by decide +kernel
theorem dJx00060_init_a7421_2 : decode cJx00060_init_a7421 2 = .ok (.invokespecial 7, 3) := by decide +kernel
theorem dJx00060_init_a7421_5 : decode cJx00060_init_a7421 5 = .ok (.return_, 1) := by decide +kernel
theorem dJ6_bitCount_0f7a4_0 : decode cJ6_bitCount_0f7a4 0 = .ok (.iload_n 0, 1) := by decide +kernel
theorem dJ6_bitCount_0f7a4_1 : decode cJ6_bitCount_0f7a4 1 = .ok (.iload_n 0, 1) := by decide +kernel
theorem dJ6_bitCount_0f7a4_2 : decode cJ6_bitCount_0f7a4 2 = .ok (.iconst 1, 1) := by decide +kernel
theorem dJ6_bitCount_0f7a4_3 : decode cJ6_bitCount_0f7a4 3 = .ok (.iushr, 1) := by decide +kernel
theorem dJ6_bitCount_0f7a4_4 : decode cJ6_bitCount_0f7a4 4 = .ok (.ldc_w 265, 3) := by decide +kernel
theorem dJ6_bitCount_0f7a4_7 : decode cJ6_bitCount_0f7a4 7 = .ok (.iand, 1) := by decide +kernel
theorem dJ6_bitCount_0f7a4_8 : decode cJ6_bitCount_0f7a4 8 = .ok (.isub, 1) := by decide +kernel
theorem dJ6_bitCount_0f7a4_9 : decode cJ6_bitCount_0f7a4 9 = .ok (.istore_n 0, 1) := by decide +kernel
theorem dJ6_bitCount_0f7a4_10 : decode cJ6_bitCount_0f7a4 10 = .ok (.iload_n 0, 1) := by decide +kernel
theorem dJ6_bitCount_0f7a4_11 : decode cJ6_bitCount_0f7a4 11 = .ok (.ldc_w 266, 3) := by decide +kernel
theorem dJ6_bitCount_0f7a4_14 : decode cJ6_bitCount_0f7a4 14 = .ok (.iand, 1) := by decide +kernel
theorem dJ6_bitCount_0f7a4_15 : decode cJ6_bitCount_0f7a4 15 = .ok (.iload_n 0, 1) := by decide +kernel
theorem dJ6_bitCount_0f7a4_16 : decode cJ6_bitCount_0f7a4 16 = .ok (.iconst 2, 1) := by decide +kernel
theorem dJ6_bitCount_0f7a4_17 : decode cJ6_bitCount_0f7a4 17 = .ok (.iushr, 1) := by decide +kernel
theorem dJ6_bitCount_0f7a4_18 : decode cJ6_bitCount_0f7a4 18 = .ok (.ldc_w 266, 3) := by decide +kernel
theorem dJ6_bitCount_0f7a4_21 : decode cJ6_bitCount_0f7a4 21 = .ok (.iand, 1) := by decide +kernel
theorem dJ6_bitCount_0f7a4_22 : decode cJ6_bitCount_0f7a4 22 = .ok (.iadd, 1) := by decide +kernel
theorem dJ6_bitCount_0f7a4_23 : decode cJ6_bitCount_0f7a4 23 = .ok (.istore_n 0, 1) := by decide +kernel
theorem dJ6_bitCount_0f7a4_24 : decode cJ6_bitCount_0f7a4 24 = .ok (.iload_n 0, 1) := by decide +kernel
theorem dJ6_bitCount_0f7a4_25 : decode cJ6_bitCount_0f7a4 25 = .ok (.iload_n 0, 1) := by decide +kernel
theorem dJ6_bitCount_0f7a4_26 : decode cJ6_bitCount_0f7a4 26 = .ok (.iconst 4, 1) := by decide +kernel
theorem dJ6_bitCount_0f7a4_27 : decode cJ6_bitCount_0f7a4 27 = .ok (.iushr, 1) := by decide +kernel
theorem dJ6_bitCount_0f7a4_28 : decode cJ6_bitCount_0f7a4 28 = .ok (.iadd, 1) := by decide +kernel
theorem dJ6_bitCount_0f7a4_29 : decode cJ6_bitCount_0f7a4 29 = .ok (.ldc_w 267, 3) := by decide +kernel
theorem dJ6_bitCount_0f7a4_32 : decode cJ6_bitCount_0f7a4 32 = .ok (.iand, 1) := by decide +kernel
theorem dJ6_bitCount_0f7a4_33 : decode cJ6_bitCount_0f7a4 33 = .ok (.istore_n 0, 1) := by decide +kernel
theorem dJ6_bitCount_0f7a4_34 : decode cJ6_bitCount_0f7a4 34 = .ok (.iload_n 0, 1) := by decide +kernel
theorem dJ6_bitCount_0f7a4_35 : decode cJ6_bitCount_0f7a4 35 = .ok (.iload_n 0, 1) := by decide +kernel
theorem dJ6_bitCount_0f7a4_36 : decode cJ6_bitCount_0f7a4 36 = .ok (.bipush 8, 2) := by decide +kernel
theorem dJ6_bitCount_0f7a4_38 : decode cJ6_bitCount_0f7a4 38 = .ok (.iushr, 1) := by decide +kernel
theorem dJ6_bitCount_0f7a4_39 : decode cJ6_bitCount_0f7a4 39 = .ok (.iadd, 1) := by decide +kernel
theorem dJ6_bitCount_0f7a4_40 : decode cJ6_bitCount_0f7a4 40 = .ok (.istore_n 0, 1) := by decide +kernel
theorem dJ6_bitCount_0f7a4_41 : decode cJ6_bitCount_0f7a4 41 = .ok (.iload_n 0, 1) := by decide +kernel
theorem dJ6_bitCount_0f7a4_42 : decode cJ6_bitCount_0f7a4 42 = .ok (.iload_n 0, 1) := by decide +kernel
theorem dJ6_bitCount_0f7a4_43 : decode cJ6_bitCount_0f7a4 43 = .ok (.bipush 16, 2) := by decide +kernel
theorem dJ6_bitCount_0f7a4_45 : decode cJ6_bitCount_0f7a4 45 = .ok (.iushr, 1) := by decide +kernel
theorem dJ6_bitCount_0f7a4_46 : decode cJ6_bitCount_0f7a4 46 = .ok (.iadd, 1) := by decide +kernel
theorem dJ6_bitCount_0f7a4_47 : decode cJ6_bitCount_0f7a4 47 = .ok (.istore_n 0, 1) := by decide +kernel
theorem dJ6_bitCount_0f7a4_48 : decode cJ6_bitCount_0f7a4 48 = .ok (.iload_n 0, 1) := by decide +kernel
theorem dJ6_bitCount_0f7a4_49 : decode cJ6_bitCount_0f7a4 49 = .ok (.bipush 63, 2) := by decide +kernel
theorem dJ6_bitCount_0f7a4_51 : decode cJ6_bitCount_0f7a4 51 = .ok (.iand, 1) := by decide +kernel
theorem dJ6_bitCount_0f7a4_52 : decode cJ6_bitCount_0f7a4 52 = .ok (.ireturn, 1) := by decide +kernel
theorem dJ9_abs_067f4_0 : decode cJ9_abs_067f4 0 = .ok (.lload_n 0, 1) := by decide +kernel
theorem dJ9_abs_067f4_1 : decode cJ9_abs_067f4 1 = .ok (.lconst 0, 1) := by decide +kernel
theorem dJ9_abs_067f4_2 : decode cJ9_abs_067f4 2 = .ok (.lcmp, 1) := by decide +kernel
theorem dJ9_abs_067f4_3 : decode cJ9_abs_067f4 3 = .ok (.ifCond .ge 8, 3) := by decide +kernel
theorem dJ9_abs_067f4_6 : decode cJ9_abs_067f4 6 = .ok (.lload_n 0, 1) := by decide +kernel
theorem dJ9_abs_067f4_7 : decode cJ9_abs_067f4 7 = .ok (.lneg, 1) := by decide +kernel
theorem dJ9_abs_067f4_8 : decode cJ9_abs_067f4 8 = .ok (.goto 4, 3) := by decide +kernel
theorem dJ9_abs_067f4_11 : decode cJ9_abs_067f4 11 = .ok (.lload_n 0, 1) := by decide +kernel
theorem dJ9_abs_067f4_12 : decode cJ9_abs_067f4 12 = .ok (.lreturn, 1) := by decide +kernel
theorem dL_cell_0 : decode cL_cell 0 = .ok (.iload_n 1, 1) := by decide +kernel
theorem dL_cell_1 : decode cL_cell 1 = .ok (.aload_n 0, 1) := by decide +kernel
theorem dL_cell_2 : decode cL_cell 2 = .ok (.arraylength, 1) := by decide +kernel
theorem dL_cell_3 : decode cL_cell 3 = .ok (.if_icmp .ge 9, 3) := by decide +kernel
theorem dL_cell_6 : decode cL_cell 6 = .ok (.aload_n 0, 1) := by decide +kernel
theorem dL_cell_7 : decode cL_cell 7 = .ok (.iload_n 1, 1) := by decide +kernel
theorem dL_cell_8 : decode cL_cell 8 = .ok (.iaload, 1) := by decide +kernel
theorem dL_cell_9 : decode cL_cell 9 = .ok (.goto 4, 3) := by decide +kernel
theorem dL_cell_12 : decode cL_cell 12 = .ok (.iconst 0, 1) := by decide +kernel
theorem dL_cell_13 : decode cL_cell 13 = .ok (.ireturn, 1) := by decide +kernel
set_option maxRecDepth 20000 in
theorem ggL_nibble_X4_nibble : GoodIn wsL_nibble wsX4_nibble := goodIn_r _ [5, 6, 7, 8, 9, 10, 11, 12, 13, 4, 14, 15, 16, 17, 18, 19, 20, 21, 22, 23, 24, 25, 26, 27, 28, 29, 30, 31, 32, 33, 34, 35] (by decide +kernel) (by decide +kernel)
set_option maxRecDepth 20000 in
theorem gL_nibble_X4_nibble : GoodIn wsL_nibble (wsV RL 7 RX4 yX4_nibble wsX4_nibble) := goodIn_app (goodIn_of _ (by decide +kernel)) ggL_nibble_X4_nibble
theorem dL_nibble_0 : decode cL_nibble 0 = .ok (.aload_n 2, 1) := by decide +kernel
theorem dL_nibble_1 : decode cL_nibble 1 = .ok (.iconst 0, 1) := by decide +kernel
theorem dL_nibble_2 : decode cL_nibble 2 = .ok (.aload_n 0, 1) := by decide +kernel
theorem dL_nibble_3 : decode cL_nibble 3 = .ok (.iload_n 1, 1) := by decide +kernel
theorem dL_nibble_4 : decode cL_nibble 4 = .ok (.invokevirtual 7, 3) := by decide +kernel
theorem dL_nibble_7 : decode cL_nibble 7 = .ok (.i2l, 1) := by decide +kernel
theorem dL_nibble_8 : decode cL_nibble 8 = .ok (.lastore, 1) := by decide +kernel
theorem dL_nibble_9 : decode cL_nibble 9 = .ok (.goto 6, 3) := by decide +kernel
theorem dL_nibble_12 : decode cL_nibble 12 = .ok (.astore_n 3, 1) := by decide +kernel
theorem dL_nibble_13 : decode cL_nibble 13 = .ok (.iconst 1, 1) := by decide +kernel
theorem dL_nibble_14 : decode cL_nibble 14 = .ok (.ireturn, 1) := by decide +kernel
theorem dL_nibble_15 : decode cL_nibble 15 = .ok (.iconst 0, 1) := by decide +kernel
theorem dL_nibble_16 : decode cL_nibble 16 = .ok (.ireturn, 1) := by decide +kernel
set_option maxRecDepth 20000 in
theorem ggL_calibrate_X4_calibrate : GoodIn wsL_calibrate wsX4_calibrate := goodIn_ca (goodIn_r _ [6, 7, 8, 9, 10, 11, 12, 5, 13, 14, 15, 16, 17, 18, 19, 20, 21, 22, 23, 24, 25, 26, 27, 28, 29, 30, 31, 32, 33] (by decide +kernel) (by decide +kernel)) (goodIn_sub (fun _ h => List.mem_cons_of_mem _ (List.mem_append_right _ h)) (by decide +kernel))
set_option maxRecDepth 20000 in
theorem gL_calibrate_X4_calibrate : GoodIn wsL_calibrate (wsV RL 15 RX4 yX4_calibrate wsX4_calibrate) := goodIn_app (goodIn_of _ (by decide +kernel)) ggL_calibrate_X4_calibrate
theorem dL_calibrate_0 : decode cL_calibrate 0 = .ok (.aload_n 3, 1) := by decide +kernel
theorem dL_calibrate_1 : decode cL_calibrate 1 = .ok (.iconst 0, 1) := by decide +kernel
theorem dL_calibrate_2 : decode cL_calibrate 2 = .ok (.aload_n 0, 1) := by decide +kernel
theorem dL_calibrate_3 : decode cL_calibrate 3 = .ok (.lload_n 1, 1) := by decide +kernel
theorem dL_calibrate_4 : decode cL_calibrate 4 = .ok (.invokevirtual 15, 3) := by decide +kernel
theorem dL_calibrate_7 : decode cL_calibrate 7 = .ok (.i2l, 1) := by decide +kernel
theorem dL_calibrate_8 : decode cL_calibrate 8 = .ok (.lastore, 1) := by decide +kernel
theorem dL_calibrate_9 : decode cL_calibrate 9 = .ok (.goto 7, 3) := by decide +kernel
theorem dL_calibrate_12 : decode cL_calibrate 12 = .ok (.astore 4, 2) := by decide +kernel
theorem dL_calibrate_14 : decode cL_calibrate 14 = .ok (.iconst 1, 1) := by decide +kernel
theorem dL_calibrate_15 : decode cL_calibrate 15 = .ok (.ireturn, 1) := by decide +kernel
theorem dL_calibrate_16 : decode cL_calibrate 16 = .ok (.iconst 0, 1) := by decide +kernel
theorem dL_calibrate_17 : decode cL_calibrate 17 = .ok (.ireturn, 1) := by decide +kernel
set_option maxRecDepth 20000 in
theorem ggL_law_L_cell : GoodIn wsL_law wsL_cell := goodIn_r _ [11] (by decide +kernel) (by decide +kernel)
set_option maxRecDepth 20000 in
theorem gL_law_L_cell : GoodIn wsL_law (va_wsS RL 21 yL_cell wsL_cell) := goodIn_app (goodIn_of _ (by decide +kernel)) ggL_law_L_cell
set_option maxRecDepth 20000 in
theorem ggL_law_X4_init : GoodIn wsL_law wsX4_init := goodIn_r _ [14, 15, 16, 17, 18, 19, 20, 21, 22, 23, 24, 25, 26, 27, 28, 29, 30, 31, 32, 33, 34, 35, 36, 37, 38, 39, 40, 41, 42, 43, 44, 45, 46, 47, 48, 49, 50, 51, 355, 356, 357, 358, 359, 360, 361, 362, 363, 364, 365, 366, 395, 396, 397, 398, 399, 400, 401, 402, 403, 404, 405, 406, 407, 408] (by decide +kernel) (by decide +kernel)
set_option maxRecDepth 20000 in
theorem gL_law_X4_init : GoodIn wsL_law (wsX4_init) := ggL_law_X4_init
set_option maxRecDepth 20000 in
theorem ggL_law_X5_init : GoodIn wsL_law wsX5_init := goodIn_r _ [54, 55, 16, 17, 56, 35, 57, 58, 59, 60, 61, 62, 63, 64, 65, 66, 367, 368, 369, 370, 371, 372, 373, 374, 375, 376, 377, 378, 379, 380, 381, 382, 383, 384, 385, 386, 387, 388, 389, 390, 391, 392, 393, 394] (by decide +kernel) (by decide +kernel)
set_option maxRecDepth 20000 in
theorem gL_law_X5_init : GoodIn wsL_law (wsX5_init) := ggL_law_X5_init
set_option maxRecDepth 20000 in
theorem ggL_law_X4_edge : GoodIn wsL_law wsX4_edge := goodIn_r _ [70, 38, 71, 72, 73, 74, 2, 75, 76, 77, 78, 79, 80, 81, 22, 82, 83, 84, 85, 86, 87, 88, 89, 90, 91, 92, 21, 93, 94, 95, 96, 97, 98, 99, 100, 26, 101, 102, 103, 104, 105, 36, 106, 107, 108, 109, 110, 111, 112, 113, 114, 115, 116, 117, 118, 119, 120, 121, 122, 25, 123, 124, 125, 126, 127, 128, 129, 130, 131, 132, 133, 134, 135, 136, 137, 138, 139, 140, 141, 142, 45, 143, 144, 145, 146, 147, 148, 149, 150, 151, 152, 153, 154, 155, 156, 18, 355, 356, 357, 358, 359, 360, 361, 362, 363, 364, 365, 366, 395, 396, 397, 398, 399, 400, 401] (by decide +kernel) (by decide +kernel)
set_option maxRecDepth 20000 in
theorem gL_law_X4_edge : GoodIn wsL_law (wsV RL 35 RX4 yX4_edge wsX4_edge) := goodIn_app (goodIn_of _ (by decide +kernel)) ggL_law_X4_edge
set_option maxRecDepth 20000 in
theorem ggL_law_X5_edge : GoodIn wsL_law wsX5_edge := goodIn_r _ [160, 161, 162, 163, 164, 56, 165, 166, 167, 168, 169, 57, 170, 171, 172, 5, 173, 174, 66, 175, 176, 177, 178, 179, 180, 181, 182, 183, 184, 185, 58, 186, 59, 187, 60, 62, 188, 189, 190, 191, 192, 193, 194, 195, 63, 64, 196, 367, 368, 369, 370, 371, 372, 373, 374, 375, 376, 377, 378, 379, 380, 381, 382, 383, 384, 385, 386, 387, 388, 389, 390, 391, 392, 393, 394] (by decide +kernel) (by decide +kernel)
set_option maxRecDepth 20000 in
theorem gL_law_X5_edge : GoodIn wsL_law (wsV RL 38 RX5 yX5_edge wsX5_edge) := goodIn_app (goodIn_of _ (by decide +kernel)) ggL_law_X5_edge
set_option maxRecDepth 20000 in
theorem ggL_law_L_nibble : GoodIn wsL_law wsL_nibble := goodIn_r _ [199, 200, 201, 202, 2, 203, 105, 204, 205, 206, 36, 207, 208, 209, 210, 117, 118, 119, 355, 356, 357, 358, 359, 360, 361, 362, 363, 364, 365, 366, 409, 410, 411, 412, 413, 414] (by decide +kernel) (by decide +kernel)
set_option maxRecDepth 20000 in
theorem gL_law_L_nibble : GoodIn wsL_law (va_wsS RL 39 yL_nibble wsL_nibble) := goodIn_app (goodIn_of _ (by decide +kernel)) ggL_law_L_nibble
set_option maxRecDepth 20000 in
theorem ggL_law_X5_nibble : GoodIn wsL_law wsX5_nibble := goodIn_r _ [214, 186, 161, 58, 367, 368, 369, 370, 371, 372, 373, 374, 375, 376, 377, 378, 379, 380, 381, 382, 383, 384, 385, 386, 387, 388, 389, 390, 391, 392, 393, 394] (by decide +kernel) (by decide +kernel)
set_option maxRecDepth 20000 in
theorem gL_law_X5_nibble : GoodIn wsL_law (wsV RL 42 RX5 yX5_nibble wsX5_nibble) := goodIn_app (goodIn_of _ (by decide +kernel)) ggL_law_X5_nibble
set_option maxRecDepth 20000 in
theorem ggL_law_X5_thrown : GoodIn wsL_law wsX5_thrown := goodIn_r _ [218, 161, 367, 368, 369, 370, 371, 372, 373, 374, 375, 376, 377, 378, 379, 380, 381, 382, 383, 384, 385, 386, 387, 388, 389, 390, 391, 392, 393, 394] (by decide +kernel) (by decide +kernel)
set_option maxRecDepth 20000 in
theorem gL_law_X5_thrown : GoodIn wsL_law (wsV RL 43 RX5 yX5_thrown wsX5_thrown) := goodIn_app (goodIn_of _ (by decide +kernel)) ggL_law_X5_thrown
set_option maxRecDepth 20000 in
theorem ggL_law_X4_check : GoodIn wsL_law wsX4_check := goodIn_r _ [222, 113, 114, 2, 115, 116, 117, 118, 119] (by decide +kernel) (by decide +kernel)
set_option maxRecDepth 20000 in
theorem gL_law_X4_check : GoodIn wsL_law (wsV RL 47 RX4 yX4_check wsX4_check) := goodIn_app (goodIn_of _ (by decide +kernel)) ggL_law_X4_check
set_option maxRecDepth 20000 in
theorem ggL_law_X5_check : GoodIn wsL_law wsX5_check := goodIn_r _ [226, 161, 189, 190, 5, 191, 367, 368, 369, 370, 371, 372, 373, 374, 375, 376, 377, 378, 379, 380, 381, 382, 383, 384, 385, 386, 387, 388, 389, 390, 391, 392, 393, 394] (by decide +kernel) (by decide +kernel)
set_option maxRecDepth 20000 in
theorem gL_law_X5_check : GoodIn wsL_law (wsV RL 50 RX5 yX5_check wsX5_check) := goodIn_app (goodIn_of _ (by decide +kernel)) ggL_law_X5_check
set_option maxRecDepth 20000 in
theorem ggL_law_X4_slow : GoodIn wsL_law wsX4_slow := goodIn_r _ [230, 26, 231, 232, 233, 25, 234, 142, 235, 236, 237, 238, 45, 355, 356, 357, 358, 359, 360, 361, 362, 363, 364, 365, 366, 398, 399, 400, 401] (by decide +kernel) (by decide +kernel)
set_option maxRecDepth 20000 in
theorem gL_law_X4_slow : GoodIn wsL_law (wsV RL 51 RX4 yX4_slow wsX4_slow) := goodIn_app (goodIn_of _ (by decide +kernel)) ggL_law_X4_slow
set_option maxRecDepth 20000 in
theorem ggL_law_X5_slow : GoodIn wsL_law wsX5_slow := goodIn_r _ [242, 161, 196, 64, 367, 368, 369, 370, 371, 372, 373, 374, 375, 376, 377, 378, 379, 380, 381, 382, 383, 384, 385, 386, 387, 388, 389, 390, 391, 392, 393, 394] (by decide +kernel) (by decide +kernel)
set_option maxRecDepth 20000 in
theorem gL_law_X5_slow : GoodIn wsL_law (wsV RL 54 RX5 yX5_slow wsX5_slow) := goodIn_app (goodIn_of _ (by decide +kernel)) ggL_law_X5_slow
set_option maxRecDepth 20000 in
theorem ggL_law_X4_row : GoodIn wsL_law wsX4_row := goodIn_r _ [246, 105, 36, 207, 208, 209, 2, 210, 130, 131, 132, 117, 118, 119, 109, 110, 111, 112, 106, 107, 108, 113, 114, 115, 116, 355, 356, 357, 358, 359, 360, 361, 362, 363, 364, 365, 366] (by decide +kernel) (by decide +kernel)
set_option maxRecDepth 20000 in
theorem gL_law_X4_row : GoodIn wsL_law (wsV RL 55 RX4 yX4_row wsX4_row) := goodIn_app (goodIn_of _ (by decide +kernel)) ggL_law_X4_row
set_option maxRecDepth 20000 in
theorem ggL_law_X5_row : GoodIn wsL_law wsX5_row := goodIn_r _ [250, 161, 187, 59, 60, 62, 367, 368, 369, 370, 371, 372, 373, 374, 375, 376, 377, 378, 379, 380, 381, 382, 383, 384, 385, 386, 387, 388, 389, 390, 391, 392, 393, 394] (by decide +kernel) (by decide +kernel)
set_option maxRecDepth 20000 in
theorem gL_law_X5_row : GoodIn wsL_law (wsV RL 59 RX5 yX5_row wsX5_row) := goodIn_app (goodIn_of _ (by decide +kernel)) ggL_law_X5_row
set_option maxRecDepth 20000 in
theorem ggL_law_L_calibrate : GoodIn wsL_law wsL_calibrate := goodIn_ca (goodIn_r _ [253, 254, 255, 256, 257, 2, 258, 259, 260, 151, 147, 148, 149, 150, 86, 81, 152, 153, 154, 155, 156, 18, 355, 356, 357, 358, 359, 360, 361, 362, 363, 364, 365, 366] (by decide +kernel) (by decide +kernel)) (goodIn_sub (fun _ h => List.mem_append_right _ h) (by decide +kernel))
set_option maxRecDepth 20000 in
theorem gL_law_L_calibrate : GoodIn wsL_law (va_wsS RL 60 yL_calibrate wsL_calibrate) := goodIn_app (goodIn_of _ (by decide +kernel)) ggL_law_L_calibrate
set_option maxRecDepth 20000 in
theorem ggL_law_X5_calibrate : GoodIn wsL_law wsX5_calibrate := goodIn_r _ [264, 161, 166, 170, 171, 172, 5, 173, 167, 165, 174, 66, 367, 368, 369, 370, 371, 372, 373, 374, 375, 376, 377, 378, 379, 380, 381, 382, 383, 384, 385, 386, 387, 388, 389, 390, 391, 392, 393, 394] (by decide +kernel) (by decide +kernel)
set_option maxRecDepth 20000 in
theorem gL_law_X5_calibrate : GoodIn wsL_law (wsV RL 63 RX5 yX5_calibrate wsX5_calibrate) := goodIn_app (goodIn_of _ (by decide +kernel)) ggL_law_X5_calibrate
set_option maxRecDepth 20000 in
theorem ggL_law_X4_parity : GoodIn wsL_law wsX4_parity := goodIn_r _ [268, 269, 270, 271, 272, 273, 274, 275] (by decide +kernel) (by decide +kernel)
set_option maxRecDepth 20000 in
theorem gL_law_X4_parity : GoodIn wsL_law (wsV RL 64 RX4 yX4_parity wsX4_parity) := goodIn_app (goodIn_of _ (by decide +kernel)) ggL_law_X4_parity
set_option maxRecDepth 20000 in
theorem ggL_law_X5_parity : GoodIn wsL_law wsX5_parity := goodIn_r _ [279, 161, 367, 368, 369, 370, 371, 372, 373, 374, 375, 376, 377, 378, 379, 380, 381, 382, 383, 384, 385, 386, 387, 388, 389, 390, 391, 392, 393, 394] (by decide +kernel) (by decide +kernel)
set_option maxRecDepth 20000 in
theorem gL_law_X5_parity : GoodIn wsL_law (wsV RL 67 RX5 yX5_parity wsX5_parity) := goodIn_app (goodIn_of _ (by decide +kernel)) ggL_law_X5_parity
set_option maxRecDepth 20000 in
theorem ggL_law_X4_bounce : GoodIn wsL_law wsX4_bounce := goodIn_r _ [283, 30, 73, 74, 2, 75, 76, 284, 285, 286, 29, 287, 288, 289, 290, 291, 292, 293, 294, 295, 296, 355, 356, 357, 358, 359, 360, 361, 362, 363, 364, 365, 366, 402, 403, 404, 405] (by decide +kernel) (by decide +kernel)
set_option maxRecDepth 20000 in
theorem gL_law_X4_bounce : GoodIn wsL_law (wsV RL 68 RX4 yX4_bounce wsX4_bounce) := goodIn_app (goodIn_of _ (by decide +kernel)) ggL_law_X4_bounce
set_option maxRecDepth 20000 in
theorem ggL_law_X5_bounce : GoodIn wsL_law wsX5_bounce := goodIn_r _ [300, 161, 301, 162, 302, 303, 304, 305, 367, 368, 369, 370, 371, 372, 373, 374, 375, 376, 377, 378, 379, 380, 381, 382, 383, 384, 385, 386, 387, 388, 389, 390, 391, 392, 393, 394] (by decide +kernel) (by decide +kernel)
set_option maxRecDepth 20000 in
theorem gL_law_X5_bounce : GoodIn wsL_law (wsV RL 72 RX5 yX5_bounce wsX5_bounce) := goodIn_app (goodIn_of _ (by decide +kernel)) ggL_law_X5_bounce
set_option maxRecDepth 20000 in
theorem ggL_law_X4_faults : GoodIn wsL_law wsX4_faults := goodIn_r _ [309, 22, 310, 311, 312, 21, 313, 94, 355, 356, 357, 358, 359, 360, 361, 362, 363, 364, 365, 366, 395, 396, 397] (by decide +kernel) (by decide +kernel)
set_option maxRecDepth 20000 in
theorem gL_law_X4_faults : GoodIn wsL_law (wsV RL 73 RX4 yX4_faults wsX4_faults) := goodIn_app (goodIn_of _ (by decide +kernel)) ggL_law_X4_faults
set_option maxRecDepth 20000 in
theorem ggL_law_X5_faults : GoodIn wsL_law wsX5_faults := goodIn_r _ [317, 161, 179, 367, 368, 369, 370, 371, 372, 373, 374, 375, 376, 377, 378, 379, 380, 381, 382, 383, 384, 385, 386, 387, 388, 389, 390, 391, 392, 393, 394] (by decide +kernel) (by decide +kernel)
set_option maxRecDepth 20000 in
theorem gL_law_X5_faults : GoodIn wsL_law (wsV RL 76 RX5 yX5_faults wsX5_faults) := goodIn_app (goodIn_of _ (by decide +kernel)) ggL_law_X5_faults
set_option maxRecDepth 20000 in
theorem ggL_law_X4_marked : GoodIn wsL_law wsX4_marked := goodIn_r _ [321, 22, 322, 323, 324, 21, 325, 96, 355, 356, 357, 358, 359, 360, 361, 362, 363, 364, 365, 366, 395, 396, 397] (by decide +kernel) (by decide +kernel)
set_option maxRecDepth 20000 in
theorem gL_law_X4_marked : GoodIn wsL_law (wsV RL 77 RX4 yX4_marked wsX4_marked) := goodIn_app (goodIn_of _ (by decide +kernel)) ggL_law_X4_marked
set_option maxRecDepth 20000 in
theorem ggL_law_X5_marked : GoodIn wsL_law wsX5_marked := goodIn_r _ [329, 161, 181, 367, 368, 369, 370, 371, 372, 373, 374, 375, 376, 377, 378, 379, 380, 381, 382, 383, 384, 385, 386, 387, 388, 389, 390, 391, 392, 393, 394] (by decide +kernel) (by decide +kernel)
set_option maxRecDepth 20000 in
theorem gL_law_X5_marked : GoodIn wsL_law (wsV RL 81 RX5 yX5_marked wsX5_marked) := goodIn_app (goodIn_of _ (by decide +kernel)) ggL_law_X5_marked
set_option maxRecDepth 20000 in
theorem ggL_law_X4_turn : GoodIn wsL_law wsX4_turn := goodIn_r _ [333, 34, 22, 334, 335, 336, 33, 337, 338, 339, 340, 90, 91, 92, 21, 93, 94, 95, 96, 341, 342, 343, 344, 355, 356, 357, 358, 359, 360, 361, 362, 363, 364, 365, 366, 406, 407, 408, 395, 396, 397] (by decide +kernel) (by decide +kernel)
set_option maxRecDepth 20000 in
theorem gL_law_X4_turn : GoodIn wsL_law (wsV RL 82 RX4 yX4_turn wsX4_turn) := goodIn_app (goodIn_of _ (by decide +kernel)) ggL_law_X4_turn
set_option maxRecDepth 20000 in
theorem ggL_law_X5_turn : GoodIn wsL_law wsX5_turn := goodIn_r _ [348, 161, 349, 350, 351, 352, 353, 5, 354, 175, 176, 177, 178, 179, 180, 181, 367, 368, 369, 370, 371, 372, 373, 374, 375, 376, 377, 378, 379, 380, 381, 382, 383, 384, 385, 386, 387, 388, 389, 390, 391, 392, 393, 394] (by decide +kernel) (by decide +kernel)
set_option maxRecDepth 20000 in
theorem gL_law_X5_turn : GoodIn wsL_law (wsV RL 86 RX5 yX5_turn wsX5_turn) := goodIn_app (goodIn_of _ (by decide +kernel)) ggL_law_X5_turn
theorem dL_law_0 : decode cL_law 0 = .ok (.new 8, 3) := by decide +kernel
theorem dL_law_3 : decode cL_law 3 = .ok (.dup, 1) := by decide +kernel
theorem dL_law_4 : decode cL_law 4 = .ok (.aload_n 0, 1) := by decide +kernel
theorem dL_law_5 : decode cL_law 5 = .ok (.iconst 0, 1) := by decide +kernel
theorem dL_law_6 : decode cL_law 6 = .ok (.invokestatic 21, 3) := by decide +kernel
theorem dL_law_9 : decode cL_law 9 = .ok (.invokespecial 27, 3) := by decide +kernel
theorem dL_law_12 : decode cL_law 12 = .ok (.astore_n 1, 1) := by decide +kernel
theorem dL_law_13 : decode cL_law 13 = .ok (.new 30, 3) := by decide +kernel
theorem dL_law_16 : decode cL_law 16 = .ok (.dup, 1) := by decide +kernel
theorem dL_law_17 : decode cL_law 17 = .ok (.aload_n 0, 1) := by decide +kernel
theorem dL_law_18 : decode cL_law 18 = .ok (.iconst 0, 1) := by decide +kernel
theorem dL_law_19 : decode cL_law 19 = .ok (.invokestatic 21, 3) := by decide +kernel
theorem dL_law_22 : decode cL_law 22 = .ok (.invokespecial 32, 3) := by decide +kernel
theorem dL_law_25 : decode cL_law 25 = .ok (.astore_n 2, 1) := by decide +kernel
theorem dL_law_26 : decode cL_law 26 = .ok (.iconst 1, 1) := by decide +kernel
theorem dL_law_27 : decode cL_law 27 = .ok (.newarray .long, 2) := by decide +kernel
theorem dL_law_29 : decode cL_law 29 = .ok (.astore_n 3, 1) := by decide +kernel
theorem dL_law_30 : decode cL_law 30 = .ok (.iconst 1, 1) := by decide +kernel
theorem dL_law_31 : decode cL_law 31 = .ok (.istore 4, 2) := by decide +kernel
theorem dL_law_33 : decode cL_law 33 = .ok (.iload 4, 2) := by decide +kernel
theorem dL_law_35 : decode cL_law 35 = .ok (.aload_n 0, 1) := by decide +kernel
theorem dL_law_36 : decode cL_law 36 = .ok (.arraylength, 1) := by decide +kernel
theorem dL_law_37 : decode cL_law 37 = .ok (.iconst 4, 1) := by decide +kernel
theorem dL_law_38 : decode cL_law 38 = .ok (.isub, 1) := by decide +kernel
theorem dL_law_39 : decode cL_law 39 = .ok (.if_icmp .gt 568, 3) := by decide +kernel
theorem dL_law_42 : decode cL_law 42 = .ok (.aload_n 0, 1) := by decide +kernel
theorem dL_law_43 : decode cL_law 43 = .ok (.iload 4, 2) := by decide +kernel
theorem dL_law_45 : decode cL_law 45 = .ok (.iaload, 1) := by decide +kernel
theorem dL_law_46 : decode cL_law 46 = .ok (.bipush 15, 2) := by decide +kernel
theorem dL_law_48 : decode cL_law 48 = .ok (.iand, 1) := by decide +kernel
theorem dL_law_49 : decode cL_law 49 = .ok (.tableswitch 552 0 10 #[59, 116, 172, 197, 222, 259, 347, 372, 457, 470, 483], 59) := by decide +kernel
theorem dL_law_108 : decode cL_law 108 = .ok (.aload_n 1, 1) := by decide +kernel
theorem dL_law_109 : decode cL_law 109 = .ok (.aload_n 0, 1) := by decide +kernel
theorem dL_law_110 : decode cL_law 110 = .ok (.iload 4, 2) := by decide +kernel
theorem dL_law_112 : decode cL_law 112 = .ok (.iconst 1, 1) := by decide +kernel
theorem dL_law_113 : decode cL_law 113 = .ok (.iadd, 1) := by decide +kernel
theorem dL_law_114 : decode cL_law 114 = .ok (.iaload, 1) := by decide +kernel
theorem dL_law_115 : decode cL_law 115 = .ok (.i2l, 1) := by decide +kernel
theorem dL_law_116 : decode cL_law 116 = .ok (.bipush 32, 2) := by decide +kernel
theorem dL_law_118 : decode cL_law 118 = .ok (.lshl, 1) := by decide +kernel
theorem dL_law_119 : decode cL_law 119 = .ok (.aload_n 0, 1) := by decide +kernel
theorem dL_law_120 : decode cL_law 120 = .ok (.iload 4, 2) := by decide +kernel
theorem dL_law_122 : decode cL_law 122 = .ok (.iconst 2, 1) := by decide +kernel
theorem dL_law_123 : decode cL_law 123 = .ok (.iadd, 1) := by decide +kernel
theorem dL_law_124 : decode cL_law 124 = .ok (.iaload, 1) := by decide +kernel
theorem dL_law_125 : decode cL_law 125 = .ok (.i2l, 1) := by decide +kernel
theorem dL_law_126 : decode cL_law 126 = .ok (.ldc2_w 33, 3) := by decide +kernel
theorem dL_law_129 : decode cL_law 129 = .ok (.land, 1) := by decide +kernel
theorem dL_law_130 : decode cL_law 130 = .ok (.lor, 1) := by decide +kernel
theorem dL_law_131 : decode cL_law 131 = .ok (.invokevirtual 35, 3) := by decide +kernel
theorem dL_law_134 : decode cL_law 134 = .ok (.aload_n 2, 1) := by decide +kernel
theorem dL_law_135 : decode cL_law 135 = .ok (.aload_n 0, 1) := by decide +kernel
theorem dL_law_136 : decode cL_law 136 = .ok (.iload 4, 2) := by decide +kernel
theorem dL_law_138 : decode cL_law 138 = .ok (.iconst 1, 1) := by decide +kernel
theorem dL_law_139 : decode cL_law 139 = .ok (.iadd, 1) := by decide +kernel
theorem dL_law_140 : decode cL_law 140 = .ok (.iaload, 1) := by decide +kernel
theorem dL_law_141 : decode cL_law 141 = .ok (.i2l, 1) := by decide +kernel
theorem dL_law_142 : decode cL_law 142 = .ok (.bipush 32, 2) := by decide +kernel
theorem dL_law_144 : decode cL_law 144 = .ok (.lshl, 1) := by decide +kernel
theorem dL_law_145 : decode cL_law 145 = .ok (.aload_n 0, 1) := by decide +kernel
theorem dL_law_146 : decode cL_law 146 = .ok (.iload 4, 2) := by decide +kernel
theorem dL_law_148 : decode cL_law 148 = .ok (.iconst 2, 1) := by decide +kernel
theorem dL_law_149 : decode cL_law 149 = .ok (.iadd, 1) := by decide +kernel
theorem dL_law_150 : decode cL_law 150 = .ok (.iaload, 1) := by decide +kernel
theorem dL_law_151 : decode cL_law 151 = .ok (.i2l, 1) := by decide +kernel
theorem dL_law_152 : decode cL_law 152 = .ok (.ldc2_w 33, 3) := by decide +kernel
theorem dL_law_155 : decode cL_law 155 = .ok (.land, 1) := by decide +kernel
theorem dL_law_156 : decode cL_law 156 = .ok (.lor, 1) := by decide +kernel
theorem dL_law_157 : decode cL_law 157 = .ok (.invokevirtual 38, 3) := by decide +kernel
theorem dL_law_160 : decode cL_law 160 = .ok (.if_icmp .eq 441, 3) := by decide +kernel
theorem dL_law_163 : decode cL_law 163 = .ok (.iconst 0, 1) := by decide +kernel
theorem dL_law_164 : decode cL_law 164 = .ok (.ireturn, 1) := by decide +kernel
theorem dL_law_165 : decode cL_law 165 = .ok (.aload_n 1, 1) := by decide +kernel
theorem dL_law_166 : decode cL_law 166 = .ok (.aload_n 0, 1) := by decide +kernel
theorem dL_law_167 : decode cL_law 167 = .ok (.iload 4, 2) := by decide +kernel
theorem dL_law_169 : decode cL_law 169 = .ok (.iconst 1, 1) := by decide +kernel
theorem dL_law_170 : decode cL_law 170 = .ok (.iadd, 1) := by decide +kernel
theorem dL_law_171 : decode cL_law 171 = .ok (.iaload, 1) := by decide +kernel
theorem dL_law_172 : decode cL_law 172 = .ok (.aload_n 3, 1) := by decide +kernel
theorem dL_law_173 : decode cL_law 173 = .ok (.invokestatic 39, 3) := by decide +kernel
theorem dL_law_176 : decode cL_law 176 = .ok (.istore 5, 2) := by decide +kernel
theorem dL_law_178 : decode cL_law 178 = .ok (.aload_n 2, 1) := by decide +kernel
theorem dL_law_179 : decode cL_law 179 = .ok (.aload_n 0, 1) := by decide +kernel
theorem dL_law_180 : decode cL_law 180 = .ok (.iload 4, 2) := by decide +kernel
theorem dL_law_182 : decode cL_law 182 = .ok (.iconst 1, 1) := by decide +kernel
theorem dL_law_183 : decode cL_law 183 = .ok (.iadd, 1) := by decide +kernel
theorem dL_law_184 : decode cL_law 184 = .ok (.iaload, 1) := by decide +kernel
theorem dL_law_185 : decode cL_law 185 = .ok (.invokevirtual 42, 3) := by decide +kernel
theorem dL_law_188 : decode cL_law 188 = .ok (.istore 6, 2) := by decide +kernel
theorem dL_law_190 : decode cL_law 190 = .ok (.aload_n 2, 1) := by decide +kernel
theorem dL_law_191 : decode cL_law 191 = .ok (.invokevirtual 43, 3) := by decide +kernel
theorem dL_law_194 : decode cL_law 194 = .ok (.iload 5, 2) := by decide +kernel
theorem dL_law_196 : decode cL_law 196 = .ok (.if_icmp .eq 5, 3) := by decide +kernel
theorem dL_law_199 : decode cL_law 199 = .ok (.iconst 0, 1) := by decide +kernel

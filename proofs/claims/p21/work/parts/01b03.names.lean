theorem dX4_back_2 : decode cX4_back 2 = .ok (.invokevirtual 58, 3) := by decide +kernel
theorem dX4_back_5 : decode cX4_back 5 = .ok (.istore_n 2, 1) := by decide +kernel
theorem dX4_back_6 : decode cX4_back 6 = .ok (.aload_n 1, 1) := by decide +kernel
theorem dX4_back_7 : decode cX4_back 7 = .ok (.getfield 46, 3) := by decide +kernel
theorem dX4_back_10 : decode cX4_back 10 = .ok (.ifCond .ne 11, 3) := by decide +kernel
theorem dX4_back_13 : decode cX4_back 13 = .ok (.aload_n 1, 1) := by decide +kernel
theorem dX4_back_14 : decode cX4_back 14 = .ok (.getfield 62, 3) := by decide +kernel
theorem dX4_back_17 : decode cX4_back 17 = .ok (.iconst 2, 1) := by decide +kernel
theorem dX4_back_18 : decode cX4_back 18 = .ok (.if_icmp .ge 7, 3) := by decide +kernel
theorem dX4_back_21 : decode cX4_back 21 = .ok (.iconst 0, 1) := by decide +kernel
theorem dX4_back_22 : decode cX4_back 22 = .ok (.goto 16, 3) := by decide +kernel
theorem dX4_back_25 : decode cX4_back 25 = .ok (.iload_n 2, 1) := by decide +kernel
theorem dX4_back_26 : decode cX4_back 26 = .ok (.iload_n 2, 1) := by decide +kernel
theorem dX4_back_27 : decode cX4_back 27 = .ok (.aload_n 0, 1) := by decide +kernel
theorem dX4_back_28 : decode cX4_back 28 = .ok (.getfield 7, 3) := by decide +kernel
theorem dX4_back_31 : decode cX4_back 31 = .ok (.iconst 2, 1) := by decide +kernel
theorem dX4_back_32 : decode cX4_back 32 = .ok (.iaload, 1) := by decide +kernel
theorem dX4_back_33 : decode cX4_back 33 = .ok (.imul, 1) := by decide +kernel
theorem dX4_back_34 : decode cX4_back 34 = .ok (.bipush 100, 2) := by decide +kernel
theorem dX4_back_36 : decode cX4_back 36 = .ok (.idiv, 1) := by decide +kernel
theorem dX4_back_37 : decode cX4_back 37 = .ok (.isub, 1) := by decide +kernel
theorem dX4_back_38 : decode cX4_back 38 = .ok (.ireturn, 1) := by decide +kernel
set_option maxRecDepth 20000 in
theorem ggX4_keptForAll_X4_kept : GoodIn wsX4_keptForAll wsX4_kept := goodIn_r _ [6, 7, 8, 9, 10, 11, 12, 13, 5, 14, 15, 16, 23, 24, 25, 26, 27, 28, 29, 17, 18, 19, 20, 21, 22] (by decide +kernel) (by decide +kernel)
set_option maxRecDepth 20000 in
theorem gX4_keptForAll_X4_kept : GoodIn wsX4_keptForAll (wsV RX4 58 RX4 yX4_kept wsX4_kept) := goodIn_app (goodIn_of _ (by decide +kernel)) ggX4_keptForAll_X4_kept
theorem dX4_keptForAll_0 : decode cX4_keptForAll 0 = .ok (.iconst 0, 1) := by decide +kernel
theorem dX4_keptForAll_1 : decode cX4_keptForAll 1 = .ok (.istore_n 1, 1) := by decide +kernel
theorem dX4_keptForAll_2 : decode cX4_keptForAll 2 = .ok (.aload_n 0, 1) := by decide +kernel
theorem dX4_keptForAll_3 : decode cX4_keptForAll 3 = .ok (.getfield 18, 3) := by decide +kernel
theorem dX4_keptForAll_6 : decode cX4_keptForAll 6 = .ok (.astore_n 2, 1) := by decide +kernel
theorem dX4_keptForAll_7 : decode cX4_keptForAll 7 = .ok (.aload_n 2, 1) := by decide +kernel
theorem dX4_keptForAll_8 : decode cX4_keptForAll 8 = .ok (.arraylength, 1) := by decide +kernel
theorem dX4_keptForAll_9 : decode cX4_keptForAll 9 = .ok (.istore_n 3, 1) := by decide +kernel
theorem dX4_keptForAll_10 : decode cX4_keptForAll 10 = .ok (.iconst 0, 1) := by decide +kernel
theorem dX4_keptForAll_11 : decode cX4_keptForAll 11 = .ok (.istore 4, 2) := by decide +kernel
theorem dX4_keptForAll_13 : decode cX4_keptForAll 13 = .ok (.iload 4, 2) := by decide +kernel
theorem dX4_keptForAll_15 : decode cX4_keptForAll 15 = .ok (.iload_n 3, 1) := by decide +kernel
theorem dX4_keptForAll_16 : decode cX4_keptForAll 16 = .ok (.if_icmp .ge 24, 3) := by decide +kernel
theorem dX4_keptForAll_19 : decode cX4_keptForAll 19 = .ok (.aload_n 2, 1) := by decide +kernel
theorem dX4_keptForAll_20 : decode cX4_keptForAll 20 = .ok (.iload 4, 2) := by decide +kernel
theorem dX4_keptForAll_22 : decode cX4_keptForAll 22 = .ok (.aaload, 1) := by decide +kernel
theorem dX4_keptForAll_23 : decode cX4_keptForAll 23 = .ok (.astore 5, 2) := by decide +kernel
theorem dX4_keptForAll_25 : decode cX4_keptForAll 25 = .ok (.iload_n 1, 1) := by decide +kernel
theorem dX4_keptForAll_26 : decode cX4_keptForAll 26 = .ok (.aload_n 0, 1) := by decide +kernel
theorem dX4_keptForAll_27 : decode cX4_keptForAll 27 = .ok (.aload 5, 2) := by decide +kernel
theorem dX4_keptForAll_29 : decode cX4_keptForAll 29 = .ok (.invokevirtual 58, 3) := by decide +kernel
theorem dX4_keptForAll_32 : decode cX4_keptForAll 32 = .ok (.iadd, 1) := by decide +kernel
theorem dX4_keptForAll_33 : decode cX4_keptForAll 33 = .ok (.istore_n 1, 1) := by decide +kernel
theorem dX4_keptForAll_34 : decode cX4_keptForAll 34 = .ok (.iinc 4 1, 3) := by decide +kernel
theorem dX4_keptForAll_37 : decode cX4_keptForAll 37 = .ok (.goto (-24), 3) := by decide +kernel
theorem dX4_keptForAll_40 : decode cX4_keptForAll 40 = .ok (.iload_n 1, 1) := by decide +kernel
theorem dX4_keptForAll_41 : decode cX4_keptForAll 41 = .ok (.ireturn, 1) := by decide +kernel
theorem dX4_come_0 : decode cX4_come 0 = .ok (.aload_n 0, 1) := by decide +kernel
theorem dX4_come_1 : decode cX4_come 1 = .ok (.aload_n 0, 1) := by decide +kernel
theorem dX4_come_2 : decode cX4_come 2 = .ok (.getfield 27, 3) := by decide +kernel
theorem dX4_come_5 : decode cX4_come 5 = .ok (.i2l, 1) := by decide +kernel
theorem dX4_come_6 : decode cX4_come 6 = .ok (.lload_n 1, 1) := by decide +kernel
theorem dX4_come_7 : decode cX4_come 7 = .ok (.ladd, 1) := by decide +kernel
theorem dX4_come_8 : decode cX4_come 8 = .ok (.ldc2_w 65, 3) := by decide +kernel
theorem dX4_come_11 : decode cX4_come 11 = .ok (.lcmp, 1) := by decide +kernel
theorem dX4_come_12 : decode cX4_come 12 = .ok (.ifCond .le 8, 3) := by decide +kernel
theorem dX4_come_15 : decode cX4_come 15 = .ok (.ldc 67, 2) := by decide +kernel
theorem dX4_come_17 : decode cX4_come 17 = .ok (.goto 11, 3) := by decide +kernel
theorem dX4_come_20 : decode cX4_come 20 = .ok (.aload_n 0, 1) := by decide +kernel
theorem dX4_come_21 : decode cX4_come 21 = .ok (.getfield 27, 3) := by decide +kernel
theorem dX4_come_24 : decode cX4_come 24 = .ok (.i2l, 1) := by decide +kernel
theorem dX4_come_25 : decode cX4_come 25 = .ok (.lload_n 1, 1) := by decide +kernel
theorem dX4_come_26 : decode cX4_come 26 = .ok (.ladd, 1) := by decide +kernel
theorem dX4_come_27 : decode cX4_come 27 = .ok (.l2i, 1) := by decide +kernel
theorem dX4_come_28 : decode cX4_come 28 = .ok (.putfield 27, 3) := by decide +kernel
theorem dX4_come_31 : decode cX4_come 31 = .ok (.return_, 1) := by decide +kernel
set_option maxRecDepth 20000 in
theorem ggX4_pass_X4_come : GoodIn wsX4_pass wsX4_come := goodIn_r _ [17, 1, 18, 19, 20, 21, 22, 23, 24, 25] (by decide +kernel) (by decide +kernel)
set_option maxRecDepth 20000 in
theorem gX4_pass_X4_come : GoodIn wsX4_pass (wsV RX4 70 RX4 yX4_come wsX4_come) := goodIn_app (goodIn_of _ (by decide +kernel)) ggX4_pass_X4_come
theorem dX4_pass_0 : decode cX4_pass 0 = .ok (.iconst 0, 1) := by decide +kernel
theorem dX4_pass_1 : decode cX4_pass 1 = .ok (.istore_n 1, 1) := by decide +kernel
theorem dX4_pass_2 : decode cX4_pass 2 = .ok (.aload_n 0, 1) := by decide +kernel
theorem dX4_pass_3 : decode cX4_pass 3 = .ok (.getfield 27, 3) := by decide +kernel
theorem dX4_pass_6 : decode cX4_pass 6 = .ok (.ifCond .le 24, 3) := by decide +kernel
theorem dX4_pass_9 : decode cX4_pass 9 = .ok (.aload_n 0, 1) := by decide +kernel
theorem dX4_pass_10 : decode cX4_pass 10 = .ok (.aload_n 0, 1) := by decide +kernel
theorem dX4_pass_11 : decode cX4_pass 11 = .ok (.getfield 27, 3) := by decide +kernel
theorem dX4_pass_14 : decode cX4_pass 14 = .ok (.i2l, 1) := by decide +kernel
theorem dX4_pass_15 : decode cX4_pass 15 = .ok (.aload_n 0, 1) := by decide +kernel
theorem dX4_pass_16 : decode cX4_pass 16 = .ok (.getfield 7, 3) := by decide +kernel
theorem dX4_pass_19 : decode cX4_pass 19 = .ok (.iconst 0, 1) := by decide +kernel
theorem dX4_pass_20 : decode cX4_pass 20 = .ok (.iaload, 1) := by decide +kernel
theorem dX4_pass_21 : decode cX4_pass 21 = .ok (.i2l, 1) := by decide +kernel
theorem dX4_pass_22 : decode cX4_pass 22 = .ok (.lmul, 1) := by decide +kernel
theorem dX4_pass_23 : decode cX4_pass 23 = .ok (.ldc2_w 68, 3) := by decide +kernel
theorem dX4_pass_26 : decode cX4_pass 26 = .ok (.ldiv, 1) := by decide +kernel
theorem dX4_pass_27 : decode cX4_pass 27 = .ok (.invokevirtual 70, 3) := by decide +kernel
theorem dX4_pass_30 : decode cX4_pass 30 = .ok (.aload_n 0, 1) := by decide +kernel
theorem dX4_pass_31 : decode cX4_pass 31 = .ok (.getfield 18, 3) := by decide +kernel
theorem dX4_pass_34 : decode cX4_pass 34 = .ok (.astore_n 2, 1) := by decide +kernel
theorem dX4_pass_35 : decode cX4_pass 35 = .ok (.aload_n 2, 1) := by decide +kernel
theorem dX4_pass_36 : decode cX4_pass 36 = .ok (.arraylength, 1) := by decide +kernel
theorem dX4_pass_37 : decode cX4_pass 37 = .ok (.istore_n 3, 1) := by decide +kernel
theorem dX4_pass_38 : decode cX4_pass 38 = .ok (.iconst 0, 1) := by decide +kernel
theorem dX4_pass_39 : decode cX4_pass 39 = .ok (.istore 4, 2) := by decide +kernel
theorem dX4_pass_41 : decode cX4_pass 41 = .ok (.iload 4, 2) := by decide +kernel
theorem dX4_pass_43 : decode cX4_pass 43 = .ok (.iload_n 3, 1) := by decide +kernel
theorem dX4_pass_44 : decode cX4_pass 44 = .ok (.if_icmp .ge 109, 3) := by decide +kernel
theorem dX4_pass_47 : decode cX4_pass 47 = .ok (.aload_n 2, 1) := by decide +kernel
theorem dX4_pass_48 : decode cX4_pass 48 = .ok (.iload 4, 2) := by decide +kernel
theorem dX4_pass_50 : decode cX4_pass 50 = .ok (.aaload, 1) := by decide +kernel
theorem dX4_pass_51 : decode cX4_pass 51 = .ok (.astore 5, 2) := by decide +kernel
theorem dX4_pass_53 : decode cX4_pass 53 = .ok (.aload 5, 2) := by decide +kernel
theorem dX4_pass_55 : decode cX4_pass 55 = .ok (.getfield 46, 3) := by decide +kernel
theorem dX4_pass_58 : decode cX4_pass 58 = .ok (.ifCond .eq 6, 3) := by decide +kernel
theorem dX4_pass_61 : decode cX4_pass 61 = .ok (.goto 86, 3) := by decide +kernel
theorem dX4_pass_64 : decode cX4_pass 64 = .ok (.aload 5, 2) := by decide +kernel
theorem dX4_pass_66 : decode cX4_pass 66 = .ok (.getfield 55, 3) := by decide +kernel
theorem dX4_pass_69 : decode cX4_pass 69 = .ok (.ifCond .ne 29, 3) := by decide +kernel
theorem dX4_pass_72 : decode cX4_pass 72 = .ok (.aload 5, 2) := by decide +kernel
theorem dX4_pass_74 : decode cX4_pass 74 = .ok (.dup, 1) := by decide +kernel
theorem dX4_pass_75 : decode cX4_pass 75 = .ok (.getfield 74, 3) := by decide +kernel
theorem dX4_pass_78 : decode cX4_pass 78 = .ok (.aload 5, 2) := by decide +kernel
theorem dX4_pass_80 : decode cX4_pass 80 = .ok (.getfield 49, 3) := by decide +kernel
theorem dX4_pass_83 : decode cX4_pass 83 = .ok (.iadd, 1) := by decide +kernel
theorem dX4_pass_84 : decode cX4_pass 84 = .ok (.putfield 74, 3) := by decide +kernel
theorem dX4_pass_87 : decode cX4_pass 87 = .ok (.iload_n 1, 1) := by decide +kernel
theorem dX4_pass_88 : decode cX4_pass 88 = .ok (.aload 5, 2) := by decide +kernel
theorem dX4_pass_90 : decode cX4_pass 90 = .ok (.getfield 49, 3) := by decide +kernel
theorem dX4_pass_93 : decode cX4_pass 93 = .ok (.iadd, 1) := by decide +kernel
theorem dX4_pass_94 : decode cX4_pass 94 = .ok (.istore_n 1, 1) := by decide +kernel
theorem dX4_pass_95 : decode cX4_pass 95 = .ok (.goto 14, 3) := by decide +kernel
theorem dX4_pass_98 : decode cX4_pass 98 = .ok (.aload 5, 2) := by decide +kernel
theorem dX4_pass_100 : decode cX4_pass 100 = .ok (.dup, 1) := by decide +kernel
theorem dX4_pass_101 : decode cX4_pass 101 = .ok (.getfield 55, 3) := by decide +kernel
theorem dX4_pass_104 : decode cX4_pass 104 = .ok (.iconst 1, 1) := by decide +kernel
theorem dX4_pass_105 : decode cX4_pass 105 = .ok (.isub, 1) := by decide +kernel
theorem dX4_pass_106 : decode cX4_pass 106 = .ok (.putfield 55, 3) := by decide +kernel
theorem dX4_pass_109 : decode cX4_pass 109 = .ok (.aload 5, 2) := by decide +kernel
theorem dX4_pass_111 : decode cX4_pass 111 = .ok (.dup, 1) := by decide +kernel
theorem dX4_pass_112 : decode cX4_pass 112 = .ok (.getfield 52, 3) := by decide +kernel
theorem dX4_pass_115 : decode cX4_pass 115 = .ok (.iconst 1, 1) := by decide +kernel
theorem dX4_pass_116 : decode cX4_pass 116 = .ok (.iadd, 1) := by decide +kernel
theorem dX4_pass_117 : decode cX4_pass 117 = .ok (.putfield 52, 3) := by decide +kernel
theorem dX4_pass_120 : decode cX4_pass 120 = .ok (.aload 5, 2) := by decide +kernel
theorem dX4_pass_122 : decode cX4_pass 122 = .ok (.dup, 1) := by decide +kernel
theorem dX4_pass_123 : decode cX4_pass 123 = .ok (.getfield 62, 3) := by decide +kernel
theorem dX4_pass_126 : decode cX4_pass 126 = .ok (.iconst 1, 1) := by decide +kernel
theorem dX4_pass_127 : decode cX4_pass 127 = .ok (.iadd, 1) := by decide +kernel
theorem dX4_pass_128 : decode cX4_pass 128 = .ok (.putfield 62, 3) := by decide +kernel
theorem dX4_pass_131 : decode cX4_pass 131 = .ok (.aload 5, 2) := by decide +kernel
theorem dX4_pass_133 : decode cX4_pass 133 = .ok (.getfield 52, 3) := by decide +kernel
theorem dX4_pass_136 : decode cX4_pass 136 = .ok (.bipush 99, 2) := by decide +kernel
theorem dX4_pass_138 : decode cX4_pass 138 = .ok (.if_icmp .le 9, 3) := by decide +kernel
theorem dX4_pass_141 : decode cX4_pass 141 = .ok (.aload 5, 2) := by decide +kernel
theorem dX4_pass_143 : decode cX4_pass 143 = .ok (.iconst 1, 1) := by decide +kernel
theorem dX4_pass_144 : decode cX4_pass 144 = .ok (.putfield 46, 3) := by decide +kernel
theorem dX4_pass_147 : decode cX4_pass 147 = .ok (.iinc 4 1, 3) := by decide +kernel
theorem dX4_pass_150 : decode cX4_pass 150 = .ok (.goto (-109), 3) := by decide +kernel
theorem dX4_pass_153 : decode cX4_pass 153 = .ok (.aload_n 0, 1) := by decide +kernel
theorem dX4_pass_154 : decode cX4_pass 154 = .ok (.dup, 1) := by decide +kernel
theorem dX4_pass_155 : decode cX4_pass 155 = .ok (.getfield 27, 3) := by decide +kernel
theorem dX4_pass_158 : decode cX4_pass 158 = .ok (.iload_n 1, 1) := by decide +kernel
theorem dX4_pass_159 : decode cX4_pass 159 = .ok (.isub, 1) := by decide +kernel
theorem dX4_pass_160 : decode cX4_pass 160 = .ok (.putfield 27, 3) := by decide +kernel
theorem dX4_pass_163 : decode cX4_pass 163 = .ok (.aload_n 0, 1) := by decide +kernel
theorem dX4_pass_164 : decode cX4_pass 164 = .ok (.dup, 1) := by decide +kernel
theorem dX4_pass_165 : decode cX4_pass 165 = .ok (.getfield 30, 3) := by decide +kernel
theorem dX4_pass_168 : decode cX4_pass 168 = .ok (.iload_n 1, 1) := by decide +kernel
theorem dX4_pass_169 : decode cX4_pass 169 = .ok (.iadd, 1) := by decide +kernel
theorem dX4_pass_170 : decode cX4_pass 170 = .ok (.putfield 30, 3) := by decide +kernel
theorem dX4_pass_173 : decode cX4_pass 173 = .ok (.aload_n 0, 1) := by decide +kernel
theorem dX4_pass_174 : decode cX4_pass 174 = .ok (.dup, 1) := by decide +kernel
theorem dX4_pass_175 : decode cX4_pass 175 = .ok (.getfield 23, 3) := by decide +kernel
theorem dX4_pass_178 : decode cX4_pass 178 = .ok (.iconst 1, 1) := by decide +kernel
theorem dX4_pass_179 : decode cX4_pass 179 = .ok (.iadd, 1) := by decide +kernel
theorem dX4_pass_180 : decode cX4_pass 180 = .ok (.putfield 23, 3) := by decide +kernel
theorem dX4_pass_183 : decode cX4_pass 183 = .ok (.iload_n 1, 1) := by decide +kernel
theorem dX4_pass_184 : decode cX4_pass 184 = .ok (.ireturn, 1) := by decide +kernel
set_option maxRecDepth 20000 in
theorem ggX4_counted_X4_keptForAll : GoodIn wsX4_counted wsX4_keptForAll := goodIn_r _ [14, 1, 15, 16, 17, 13, 18, 2, 4, 19, 3, 20, 21, 22, 23, 24, 25, 26, 27, 28, 29, 30, 31, 32, 33, 34, 35, 36, 37, 38] (by decide +kernel) (by decide +kernel)
set_option maxRecDepth 20000 in
theorem gX4_counted_X4_keptForAll : GoodIn wsX4_counted (wsV RX4 80 RX4 yX4_keptForAll wsX4_keptForAll) := goodIn_app (goodIn_of _ (by decide +kernel)) ggX4_counted_X4_keptForAll
theorem dX4_counted_0 : decode cX4_counted 0 = .ok (.iconst 0, 1) := by decide +kernel
theorem dX4_counted_1 : decode cX4_counted 1 = .ok (.istore_n 2, 1) := by decide +kernel
theorem dX4_counted_2 : decode cX4_counted 2 = .ok (.iconst 0, 1) := by decide +kernel
theorem dX4_counted_3 : decode cX4_counted 3 = .ok (.istore_n 3, 1) := by decide +kernel
theorem dX4_counted_4 : decode cX4_counted 4 = .ok (.iconst 0, 1) := by decide +kernel
theorem dX4_counted_5 : decode cX4_counted 5 = .ok (.istore 4, 2) := by decide +kernel
theorem dX4_counted_7 : decode cX4_counted 7 = .ok (.aload_n 0, 1) := by decide +kernel
theorem dX4_counted_8 : decode cX4_counted 8 = .ok (.getfield 18, 3) := by decide +kernel
theorem dX4_counted_11 : decode cX4_counted 11 = .ok (.astore 5, 2) := by decide +kernel
theorem dX4_counted_13 : decode cX4_counted 13 = .ok (.aload 5, 2) := by decide +kernel
theorem dX4_counted_15 : decode cX4_counted 15 = .ok (.arraylength, 1) := by decide +kernel
theorem dX4_counted_16 : decode cX4_counted 16 = .ok (.istore 6, 2) := by decide +kernel
theorem dX4_counted_18 : decode cX4_counted 18 = .ok (.iconst 0, 1) := by decide +kernel
theorem dX4_counted_19 : decode cX4_counted 19 = .ok (.istore 7, 2) := by decide +kernel
theorem dX4_counted_21 : decode cX4_counted 21 = .ok (.iload 7, 2) := by decide +kernel
theorem dX4_counted_23 : decode cX4_counted 23 = .ok (.iload 6, 2) := by decide +kernel
theorem dX4_counted_25 : decode cX4_counted 25 = .ok (.if_icmp .ge 70, 3) := by decide +kernel
theorem dX4_counted_28 : decode cX4_counted 28 = .ok (.aload 5, 2) := by decide +kernel
theorem dX4_counted_30 : decode cX4_counted 30 = .ok (.iload 7, 2) := by decide +kernel
theorem dX4_counted_32 : decode cX4_counted 32 = .ok (.aaload, 1) := by decide +kernel
theorem dX4_counted_33 : decode cX4_counted 33 = .ok (.astore 8, 2) := by decide +kernel
theorem dX4_counted_35 : decode cX4_counted 35 = .ok (.iload_n 2, 1) := by decide +kernel
theorem dX4_counted_36 : decode cX4_counted 36 = .ok (.aload 8, 2) := by decide +kernel
theorem dX4_counted_38 : decode cX4_counted 38 = .ok (.getfield 46, 3) := by decide +kernel
theorem dX4_counted_41 : decode cX4_counted 41 = .ok (.ifCond .ne 7, 3) := by decide +kernel
theorem dX4_counted_44 : decode cX4_counted 44 = .ok (.iconst 1, 1) := by decide +kernel
theorem dX4_counted_45 : decode cX4_counted 45 = .ok (.goto 4, 3) := by decide +kernel
theorem dX4_counted_48 : decode cX4_counted 48 = .ok (.iconst 0, 1) := by decide +kernel
theorem dX4_counted_49 : decode cX4_counted 49 = .ok (.iadd, 1) := by decide +kernel
theorem dX4_counted_50 : decode cX4_counted 50 = .ok (.istore_n 2, 1) := by decide +kernel
theorem dX4_counted_51 : decode cX4_counted 51 = .ok (.iload_n 3, 1) := by decide +kernel
theorem dX4_counted_52 : decode cX4_counted 52 = .ok (.aload 8, 2) := by decide +kernel
theorem dX4_counted_54 : decode cX4_counted 54 = .ok (.getfield 46, 3) := by decide +kernel
theorem dX4_counted_57 : decode cX4_counted 57 = .ok (.ifCond .ne 19, 3) := by decide +kernel
theorem dX4_counted_60 : decode cX4_counted 60 = .ok (.aload 8, 2) := by decide +kernel
theorem dX4_counted_62 : decode cX4_counted 62 = .ok (.getfield 55, 3) := by decide +kernel
theorem dX4_counted_65 : decode cX4_counted 65 = .ok (.ifCond .ne 11, 3) := by decide +kernel
theorem dX4_counted_68 : decode cX4_counted 68 = .ok (.aload 8, 2) := by decide +kernel
theorem dX4_counted_70 : decode cX4_counted 70 = .ok (.getfield 49, 3) := by decide +kernel
theorem dX4_counted_73 : decode cX4_counted 73 = .ok (.goto 4, 3) := by decide +kernel
theorem dX4_counted_76 : decode cX4_counted 76 = .ok (.iconst 0, 1) := by decide +kernel
theorem dX4_counted_77 : decode cX4_counted 77 = .ok (.iadd, 1) := by decide +kernel
theorem dX4_counted_78 : decode cX4_counted 78 = .ok (.istore_n 3, 1) := by decide +kernel
theorem dX4_counted_79 : decode cX4_counted 79 = .ok (.iload 4, 2) := by decide +kernel
theorem dX4_counted_81 : decode cX4_counted 81 = .ok (.aload 8, 2) := by decide +kernel
theorem dX4_counted_83 : decode cX4_counted 83 = .ok (.getfield 77, 3) := by decide +kernel
theorem dX4_counted_86 : decode cX4_counted 86 = .ok (.iadd, 1) := by decide +kernel
theorem dX4_counted_87 : decode cX4_counted 87 = .ok (.istore 4, 2) := by decide +kernel
theorem dX4_counted_89 : decode cX4_counted 89 = .ok (.iinc 7 1, 3) := by decide +kernel
theorem dX4_counted_92 : decode cX4_counted 92 = .ok (.goto (-71), 3) := by decide +kernel
theorem dX4_counted_95 : decode cX4_counted 95 = .ok (.aload_n 0, 1) := by decide +kernel
theorem dX4_counted_96 : decode cX4_counted 96 = .ok (.invokevirtual 80, 3) := by decide +kernel
theorem dX4_counted_99 : decode cX4_counted 99 = .ok (.istore 5, 2) := by decide +kernel
theorem dX4_counted_101 : decode cX4_counted 101 = .ok (.bipush 9, 2) := by decide +kernel
theorem dX4_counted_103 : decode cX4_counted 103 = .ok (.newarray .int, 2) := by decide +kernel
theorem dX4_counted_105 : decode cX4_counted 105 = .ok (.dup, 1) := by decide +kernel
theorem dX4_counted_106 : decode cX4_counted 106 = .ok (.iconst 0, 1) := by decide +kernel
theorem dX4_counted_107 : decode cX4_counted 107 = .ok (.aload_n 0, 1) := by decide +kernel
theorem dX4_counted_108 : decode cX4_counted 108 = .ok (.getfield 23, 3) := by decide +kernel
theorem dX4_counted_111 : decode cX4_counted 111 = .ok (.iastore, 1) := by decide +kernel
theorem dX4_counted_112 : decode cX4_counted 112 = .ok (.dup, 1) := by decide +kernel
theorem dX4_counted_113 : decode cX4_counted 113 = .ok (.iconst 1, 1) := by decide +kernel
theorem dX4_counted_114 : decode cX4_counted 114 = .ok (.aload_n 0, 1) := by decide +kernel
theorem dX4_counted_115 : decode cX4_counted 115 = .ok (.getfield 18, 3) := by decide +kernel
theorem dX4_counted_118 : decode cX4_counted 118 = .ok (.arraylength, 1) := by decide +kernel
theorem dX4_counted_119 : decode cX4_counted 119 = .ok (.iastore, 1) := by decide +kernel
theorem dX4_counted_120 : decode cX4_counted 120 = .ok (.dup, 1) := by decide +kernel
theorem dX4_counted_121 : decode cX4_counted 121 = .ok (.iconst 2, 1) := by decide +kernel
theorem dX4_counted_122 : decode cX4_counted 122 = .ok (.iload_n 2, 1) := by decide +kernel
theorem dX4_counted_123 : decode cX4_counted 123 = .ok (.iastore, 1) := by decide +kernel
theorem dX4_counted_124 : decode cX4_counted 124 = .ok (.dup, 1) := by decide +kernel
theorem dX4_counted_125 : decode cX4_counted 125 = .ok (.iconst 3, 1) := by decide +kernel
theorem dX4_counted_126 : decode cX4_counted 126 = .ok (.aload_n 0, 1) := by decide +kernel
theorem dX4_counted_127 : decode cX4_counted 127 = .ok (.getfield 27, 3) := by decide +kernel
theorem dX4_counted_130 : decode cX4_counted 130 = .ok (.iastore, 1) := by decide +kernel
theorem dX4_counted_131 : decode cX4_counted 131 = .ok (.dup, 1) := by decide +kernel
theorem dX4_counted_132 : decode cX4_counted 132 = .ok (.iconst 4, 1) := by decide +kernel
theorem dX4_counted_133 : decode cX4_counted 133 = .ok (.iload 5, 2) := by decide +kernel
theorem dX4_counted_135 : decode cX4_counted 135 = .ok (.iastore, 1) := by decide +kernel
theorem dX4_counted_136 : decode cX4_counted 136 = .ok (.dup, 1) := by decide +kernel
theorem dX4_counted_137 : decode cX4_counted 137 = .ok (.iconst 5, 1) := by decide +kernel
theorem dX4_counted_138 : decode cX4_counted 138 = .ok (.aload_n 0, 1) := by decide +kernel
theorem dX4_counted_139 : decode cX4_counted 139 = .ok (.getfield 27, 3) := by decide +kernel
theorem dX4_counted_142 : decode cX4_counted 142 = .ok (.iload 5, 2) := by decide +kernel
theorem dX4_counted_144 : decode cX4_counted 144 = .ok (.isub, 1) := by decide +kernel
theorem dX4_counted_145 : decode cX4_counted 145 = .ok (.iastore, 1) := by decide +kernel
theorem dX4_counted_146 : decode cX4_counted 146 = .ok (.dup, 1) := by decide +kernel
theorem dX4_counted_147 : decode cX4_counted 147 = .ok (.bipush 6, 2) := by decide +kernel
theorem dX4_counted_149 : decode cX4_counted 149 = .ok (.iload_n 3, 1) := by decide +kernel
theorem dX4_counted_150 : decode cX4_counted 150 = .ok (.iastore, 1) := by decide +kernel
theorem dX4_counted_151 : decode cX4_counted 151 = .ok (.dup, 1) := by decide +kernel
theorem dX4_counted_152 : decode cX4_counted 152 = .ok (.bipush 7, 2) := by decide +kernel
theorem dX4_counted_154 : decode cX4_counted 154 = .ok (.aload_n 0, 1) := by decide +kernel
theorem dX4_counted_155 : decode cX4_counted 155 = .ok (.getfield 30, 3) := by decide +kernel
theorem dX4_counted_158 : decode cX4_counted 158 = .ok (.iastore, 1) := by decide +kernel
theorem dX4_counted_159 : decode cX4_counted 159 = .ok (.dup, 1) := by decide +kernel
theorem dX4_counted_160 : decode cX4_counted 160 = .ok (.bipush 8, 2) := by decide +kernel
theorem dX4_counted_162 : decode cX4_counted 162 = .ok (.iload 4, 2) := by decide +kernel
theorem dX4_counted_164 : decode cX4_counted 164 = .ok (.iastore, 1) := by decide +kernel
theorem dX4_counted_165 : decode cX4_counted 165 = .ok (.astore 6, 2) := by decide +kernel
theorem dX4_counted_167 : decode cX4_counted 167 = .ok (.aload 6, 2) := by decide +kernel
theorem dX4_counted_169 : decode cX4_counted 169 = .ok (.iload_n 1, 1) := by decide +kernel
theorem dX4_counted_170 : decode cX4_counted 170 = .ok (.iaload, 1) := by decide +kernel
theorem dX4_counted_171 : decode cX4_counted 171 = .ok (.ireturn, 1) := by decide +kernel
set_option maxRecDepth 20000 in
theorem ggX4_isSame_X4_kept : GoodIn wsX4_isSame wsX4_kept := goodIn_r _ [14, 7, 4, 3, 5, 15, 16, 17, 13, 18, 19, 20, 155, 156, 157, 158, 159, 160, 161, 149, 150, 151, 152, 153, 154] (by decide +kernel) (by decide +kernel)
set_option maxRecDepth 20000 in
theorem gX4_isSame_X4_kept : GoodIn wsX4_isSame (wsV RX4 58 RX4 yX4_kept wsX4_kept) := goodIn_app (goodIn_of _ (by decide +kernel)) ggX4_isSame_X4_kept
set_option maxRecDepth 20000 in
theorem ggX4_isSame_X4_back : GoodIn wsX4_isSame wsX4_back := goodIn_r _ [24, 7, 6, 20, 10, 11, 12, 13, 14, 4, 3, 5, 15, 16, 17, 18, 19, 155, 156, 157, 158, 159, 160, 161, 149, 150, 151, 152, 153, 154] (by decide +kernel) (by decide +kernel)
set_option maxRecDepth 20000 in
theorem gX4_isSame_X4_back : GoodIn wsX4_isSame (wsV RX4 84 RX4 yX4_back wsX4_back) := goodIn_app (goodIn_of _ (by decide +kernel)) ggX4_isSame_X4_back
set_option maxRecDepth 20000 in
theorem ggX4_isSame_X3_told : GoodIn wsX4_isSame wsX3_told := goodIn_ca (goodIn_r _ [29, 30, 31, 32, 33, 34, 35, 36, 28, 37, 38, 39, 40, 41, 42, 43, 44, 45, 46, 47, 48, 49, 50, 51, 52, 53, 54, 55, 56, 57, 58, 59, 60, 61, 62, 63, 64, 65, 66, 67, 68, 69, 70, 71, 72, 73, 74, 75, 76, 77, 78, 79, 80, 81, 82, 83, 84, 85, 86, 87, 88, 89, 90, 91, 92, 162, 163, 164, 165, 166, 167, 168, 169, 170, 171, 172, 173, 174, 175, 176, 177, 178, 179, 180] (by decide +kernel) (by decide +kernel)) (goodIn_sub (fun _ h => List.mem_cons_of_mem _ (List.mem_append_right _ h)) (by decide +kernel))
set_option maxRecDepth 20000 in
theorem gX4_isSame_X3_told : GoodIn wsX4_isSame (wsV RX4 87 RX3 yX3_told wsX3_told) := goodIn_app (goodIn_of _ (by decide +kernel)) ggX4_isSame_X3_told
set_option maxRecDepth 20000 in
theorem ggX4_isSame_X3_count : GoodIn wsX4_isSame wsX3_count := goodIn_ca (goodIn_r _ [96, 30, 31, 33, 97, 98, 99, 42, 100, 101, 102, 103, 104, 105, 106, 107, 108, 109, 110, 111, 40, 41, 43, 44, 112, 67, 68, 69, 70, 71, 113, 114, 115, 48, 116, 61, 117, 118, 119, 120, 121, 63, 64, 65, 51, 50, 52, 66, 72, 73, 74, 75, 76, 77, 78, 79, 80, 81, 28, 82, 122, 123, 124, 125, 126, 127, 162, 163, 164, 165, 166, 167, 168, 169, 170, 171, 172, 173, 174, 175, 176, 177, 178, 179, 180] (by decide +kernel) (by decide +kernel)) (goodIn_sub (fun _ h => List.mem_cons_of_mem _ (List.mem_append_right _ h)) (by decide +kernel))
set_option maxRecDepth 20000 in
theorem gX4_isSame_X3_count : GoodIn wsX4_isSame (wsV RX4 92 RX3 yX3_count wsX3_count) := goodIn_app (goodIn_of _ (by decide +kernel)) ggX4_isSame_X3_count
set_option maxRecDepth 20000 in
theorem ggX4_isSame_X4_counted : GoodIn wsX4_isSame wsX4_counted := goodIn_r _ [131, 1, 7, 5, 4, 9, 2, 132, 133, 134, 135, 136, 137, 13, 138, 10, 11, 12, 14, 3, 15, 16, 17, 18, 19, 20, 149, 150, 151, 152, 153, 154, 155, 156, 157, 158, 159, 160, 161] (by decide +kernel) (by decide +kernel)
set_option maxRecDepth 20000 in
theorem gX4_isSame_X4_counted : GoodIn wsX4_isSame (wsV RX4 96 RX4 yX4_counted wsX4_counted) := goodIn_app (goodIn_of _ (by decide +kernel)) ggX4_isSame_X4_counted
set_option maxRecDepth 20000 in
theorem ggX4_isSame_X3_mean : GoodIn wsX4_isSame wsX3_mean := goodIn_r _ [142, 33, 143, 108, 109, 42, 110, 102, 111, 40, 41, 43, 44, 112, 67, 68, 69, 70, 71, 144, 145, 146, 147, 148, 162, 163, 164, 165, 166, 167, 168, 169, 170, 171, 172, 173, 174, 175, 176, 177, 178] (by decide +kernel) (by decide +kernel)
set_option maxRecDepth 20000 in
theorem gX4_isSame_X3_mean : GoodIn wsX4_isSame (wsV RX4 99 RX3 yX3_mean wsX3_mean) := goodIn_app (goodIn_of _ (by decide +kernel)) ggX4_isSame_X3_mean
theorem dX4_isSame_0 : decode cX4_isSame 0 = .ok (.iconst 0, 1) := by decide +kernel
theorem dX4_isSame_1 : decode cX4_isSame 1 = .ok (.istore_n 2, 1) := by decide +kernel
theorem dX4_isSame_2 : decode cX4_isSame 2 = .ok (.iconst 0, 1) := by decide +kernel
theorem dX4_isSame_3 : decode cX4_isSame 3 = .ok (.istore_n 3, 1) := by decide +kernel
theorem dX4_isSame_4 : decode cX4_isSame 4 = .ok (.iload_n 3, 1) := by decide +kernel
theorem dX4_isSame_5 : decode cX4_isSame 5 = .ok (.aload_n 0, 1) := by decide +kernel
theorem dX4_isSame_6 : decode cX4_isSame 6 = .ok (.getfield 18, 3) := by decide +kernel
theorem dX4_isSame_9 : decode cX4_isSame 9 = .ok (.arraylength, 1) := by decide +kernel
theorem dX4_isSame_10 : decode cX4_isSame 10 = .ok (.if_icmp .ge 153, 3) := by decide +kernel
theorem dX4_isSame_13 : decode cX4_isSame 13 = .ok (.aload_n 0, 1) := by decide +kernel
theorem dX4_isSame_14 : decode cX4_isSame 14 = .ok (.getfield 18, 3) := by decide +kernel
theorem dX4_isSame_17 : decode cX4_isSame 17 = .ok (.iload_n 3, 1) := by decide +kernel
theorem dX4_isSame_18 : decode cX4_isSame 18 = .ok (.aaload, 1) := by decide +kernel
theorem dX4_isSame_19 : decode cX4_isSame 19 = .ok (.astore 4, 2) := by decide +kernel
theorem dX4_isSame_21 : decode cX4_isSame 21 = .ok (.bipush 9, 2) := by decide +kernel
theorem dX4_isSame_23 : decode cX4_isSame 23 = .ok (.newarray .int, 2) := by decide +kernel
theorem dX4_isSame_25 : decode cX4_isSame 25 = .ok (.dup, 1) := by decide +kernel
theorem dX4_isSame_26 : decode cX4_isSame 26 = .ok (.iconst 0, 1) := by decide +kernel
theorem dX4_isSame_27 : decode cX4_isSame 27 = .ok (.aload 4, 2) := by decide +kernel
theorem dX4_isSame_29 : decode cX4_isSame 29 = .ok (.getfield 52, 3) := by decide +kernel
theorem dX4_isSame_32 : decode cX4_isSame 32 = .ok (.iastore, 1) := by decide +kernel
theorem dX4_isSame_33 : decode cX4_isSame 33 = .ok (.dup, 1) := by decide +kernel
theorem dX4_isSame_34 : decode cX4_isSame 34 = .ok (.iconst 1, 1) := by decide +kernel
theorem dX4_isSame_35 : decode cX4_isSame 35 = .ok (.aload 4, 2) := by decide +kernel
theorem dX4_isSame_37 : decode cX4_isSame 37 = .ok (.getfield 49, 3) := by decide +kernel
theorem dX4_isSame_40 : decode cX4_isSame 40 = .ok (.iastore, 1) := by decide +kernel
theorem dX4_isSame_41 : decode cX4_isSame 41 = .ok (.dup, 1) := by decide +kernel
theorem dX4_isSame_42 : decode cX4_isSame 42 = .ok (.iconst 2, 1) := by decide +kernel
theorem dX4_isSame_43 : decode cX4_isSame 43 = .ok (.aload 4, 2) := by decide +kernel
theorem dX4_isSame_45 : decode cX4_isSame 45 = .ok (.getfield 55, 3) := by decide +kernel
theorem dX4_isSame_48 : decode cX4_isSame 48 = .ok (.iastore, 1) := by decide +kernel
theorem dX4_isSame_49 : decode cX4_isSame 49 = .ok (.dup, 1) := by decide +kernel
theorem dX4_isSame_50 : decode cX4_isSame 50 = .ok (.iconst 3, 1) := by decide +kernel
theorem dX4_isSame_51 : decode cX4_isSame 51 = .ok (.aload 4, 2) := by decide +kernel
theorem dX4_isSame_53 : decode cX4_isSame 53 = .ok (.getfield 62, 3) := by decide +kernel
theorem dX4_isSame_56 : decode cX4_isSame 56 = .ok (.iastore, 1) := by decide +kernel
theorem dX4_isSame_57 : decode cX4_isSame 57 = .ok (.dup, 1) := by decide +kernel
theorem dX4_isSame_58 : decode cX4_isSame 58 = .ok (.iconst 4, 1) := by decide +kernel
theorem dX4_isSame_59 : decode cX4_isSame 59 = .ok (.aload 4, 2) := by decide +kernel
theorem dX4_isSame_61 : decode cX4_isSame 61 = .ok (.getfield 46, 3) := by decide +kernel
theorem dX4_isSame_64 : decode cX4_isSame 64 = .ok (.iastore, 1) := by decide +kernel
theorem dX4_isSame_65 : decode cX4_isSame 65 = .ok (.dup, 1) := by decide +kernel
theorem dX4_isSame_66 : decode cX4_isSame 66 = .ok (.iconst 5, 1) := by decide +kernel
theorem dX4_isSame_67 : decode cX4_isSame 67 = .ok (.aload_n 0, 1) := by decide +kernel
theorem dX4_isSame_68 : decode cX4_isSame 68 = .ok (.aload 4, 2) := by decide +kernel
theorem dX4_isSame_70 : decode cX4_isSame 70 = .ok (.invokevirtual 58, 3) := by decide +kernel
theorem dX4_isSame_73 : decode cX4_isSame 73 = .ok (.iastore, 1) := by decide +kernel
theorem dX4_isSame_74 : decode cX4_isSame 74 = .ok (.dup, 1) := by decide +kernel
theorem dX4_isSame_75 : decode cX4_isSame 75 = .ok (.bipush 6, 2) := by decide +kernel
theorem dX4_isSame_77 : decode cX4_isSame 77 = .ok (.aload 4, 2) := by decide +kernel
theorem dX4_isSame_79 : decode cX4_isSame 79 = .ok (.getfield 74, 3) := by decide +kernel
theorem dX4_isSame_82 : decode cX4_isSame 82 = .ok (.iastore, 1) := by decide +kernel
theorem dX4_isSame_83 : decode cX4_isSame 83 = .ok (.dup, 1) := by decide +kernel
theorem dX4_isSame_84 : decode cX4_isSame 84 = .ok (.bipush 7, 2) := by decide +kernel
theorem dX4_isSame_86 : decode cX4_isSame 86 = .ok (.aload 4, 2) := by decide +kernel
theorem dX4_isSame_88 : decode cX4_isSame 88 = .ok (.getfield 77, 3) := by decide +kernel
theorem dX4_isSame_91 : decode cX4_isSame 91 = .ok (.iastore, 1) := by decide +kernel
theorem dX4_isSame_92 : decode cX4_isSame 92 = .ok (.dup, 1) := by decide +kernel
theorem dX4_isSame_93 : decode cX4_isSame 93 = .ok (.bipush 8, 2) := by decide +kernel
theorem dX4_isSame_95 : decode cX4_isSame 95 = .ok (.aload_n 0, 1) := by decide +kernel
theorem dX4_isSame_96 : decode cX4_isSame 96 = .ok (.aload 4, 2) := by decide +kernel
theorem dX4_isSame_98 : decode cX4_isSame 98 = .ok (.invokevirtual 84, 3) := by decide +kernel
theorem dX4_isSame_101 : decode cX4_isSame 101 = .ok (.iastore, 1) := by decide +kernel
theorem dX4_isSame_102 : decode cX4_isSame 102 = .ok (.astore 5, 2) := by decide +kernel
theorem dX4_isSame_104 : decode cX4_isSame 104 = .ok (.iconst 0, 1) := by decide +kernel
theorem dX4_isSame_105 : decode cX4_isSame 105 = .ok (.istore 6, 2) := by decide +kernel
theorem dX4_isSame_107 : decode cX4_isSame 107 = .ok (.iload 6, 2) := by decide +kernel
theorem dX4_isSame_109 : decode cX4_isSame 109 = .ok (.bipush 9, 2) := by decide +kernel
theorem dX4_isSame_111 : decode cX4_isSame 111 = .ok (.if_icmp .ge 26, 3) := by decide +kernel
theorem dX4_isSame_114 : decode cX4_isSame 114 = .ok (.aload_n 1, 1) := by decide +kernel
theorem dX4_isSame_115 : decode cX4_isSame 115 = .ok (.iload_n 3, 1) := by decide +kernel
theorem dX4_isSame_116 : decode cX4_isSame 116 = .ok (.iload 6, 2) := by decide +kernel
theorem dX4_isSame_118 : decode cX4_isSame 118 = .ok (.invokevirtual 87, 3) := by decide +kernel
theorem dX4_isSame_121 : decode cX4_isSame 121 = .ok (.aload 5, 2) := by decide +kernel
theorem dX4_isSame_123 : decode cX4_isSame 123 = .ok (.iload 6, 2) := by decide +kernel
theorem dX4_isSame_125 : decode cX4_isSame 125 = .ok (.iaload, 1) := by decide +kernel
theorem dX4_isSame_126 : decode cX4_isSame 126 = .ok (.if_icmp .eq 5, 3) := by decide +kernel
theorem dX4_isSame_129 : decode cX4_isSame 129 = .ok (.iconst 0, 1) := by decide +kernel
theorem dX4_isSame_130 : decode cX4_isSame 130 = .ok (.ireturn, 1) := by decide +kernel
theorem dX4_isSame_131 : decode cX4_isSame 131 = .ok (.iinc 6 1, 3) := by decide +kernel
theorem dX4_isSame_134 : decode cX4_isSame 134 = .ok (.goto (-27), 3) := by decide +kernel
theorem dX4_isSame_137 : decode cX4_isSame 137 = .ok (.iload_n 2, 1) := by decide +kernel
theorem dX4_isSame_138 : decode cX4_isSame 138 = .ok (.aload 4, 2) := by decide +kernel
theorem dX4_isSame_140 : decode cX4_isSame 140 = .ok (.getfield 46, 3) := by decide +kernel
theorem dX4_isSame_143 : decode cX4_isSame 143 = .ok (.ifCond .ne 11, 3) := by decide +kernel
theorem dX4_isSame_146 : decode cX4_isSame 146 = .ok (.aload 4, 2) := by decide +kernel
theorem dX4_isSame_148 : decode cX4_isSame 148 = .ok (.getfield 52, 3) := by decide +kernel
theorem dX4_isSame_151 : decode cX4_isSame 151 = .ok (.goto 4, 3) := by decide +kernel
theorem dX4_isSame_154 : decode cX4_isSame 154 = .ok (.iconst 0, 1) := by decide +kernel
theorem dX4_isSame_155 : decode cX4_isSame 155 = .ok (.iadd, 1) := by decide +kernel
theorem dX4_isSame_156 : decode cX4_isSame 156 = .ok (.istore_n 2, 1) := by decide +kernel
theorem dX4_isSame_157 : decode cX4_isSame 157 = .ok (.iinc 3 1, 3) := by decide +kernel
theorem dX4_isSame_160 : decode cX4_isSame 160 = .ok (.goto (-156), 3) := by decide +kernel
theorem dX4_isSame_163 : decode cX4_isSame 163 = .ok (.iconst 0, 1) := by decide +kernel
theorem dX4_isSame_164 : decode cX4_isSame 164 = .ok (.istore_n 3, 1) := by decide +kernel
theorem dX4_isSame_165 : decode cX4_isSame 165 = .ok (.iload_n 3, 1) := by decide +kernel
theorem dX4_isSame_166 : decode cX4_isSame 166 = .ok (.bipush 9, 2) := by decide +kernel
theorem dX4_isSame_168 : decode cX4_isSame 168 = .ok (.if_icmp .ge 24, 3) := by decide +kernel
theorem dX4_isSame_171 : decode cX4_isSame 171 = .ok (.aload_n 1, 1) := by decide +kernel
theorem dX4_isSame_172 : decode cX4_isSame 172 = .ok (.iload_n 3, 1) := by decide +kernel
theorem dX4_isSame_173 : decode cX4_isSame 173 = .ok (.invokevirtual 92, 3) := by decide +kernel
theorem dX4_isSame_176 : decode cX4_isSame 176 = .ok (.aload_n 0, 1) := by decide +kernel
theorem dX4_isSame_177 : decode cX4_isSame 177 = .ok (.iload_n 3, 1) := by decide +kernel
theorem dX4_isSame_178 : decode cX4_isSame 178 = .ok (.invokevirtual 96, 3) := by decide +kernel
theorem dX4_isSame_181 : decode cX4_isSame 181 = .ok (.if_icmp .eq 5, 3) := by decide +kernel
theorem dX4_isSame_184 : decode cX4_isSame 184 = .ok (.iconst 0, 1) := by decide +kernel
theorem dX4_isSame_185 : decode cX4_isSame 185 = .ok (.ireturn, 1) := by decide +kernel
theorem dX4_isSame_186 : decode cX4_isSame 186 = .ok (.iinc 3 1, 3) := by decide +kernel
theorem dX4_isSame_189 : decode cX4_isSame 189 = .ok (.goto (-24), 3) := by decide +kernel
theorem dX4_isSame_192 : decode cX4_isSame 192 = .ok (.aload_n 0, 1) := by decide +kernel
theorem dX4_isSame_193 : decode cX4_isSame 193 = .ok (.iconst 2, 1) := by decide +kernel
theorem dX4_isSame_194 : decode cX4_isSame 194 = .ok (.invokevirtual 96, 3) := by decide +kernel
theorem dX4_isSame_197 : decode cX4_isSame 197 = .ok (.istore_n 3, 1) := by decide +kernel
theorem dX4_isSame_198 : decode cX4_isSame 198 = .ok (.aload_n 1, 1) := by decide +kernel
theorem dX4_isSame_199 : decode cX4_isSame 199 = .ok (.invokevirtual 99, 3) := by decide +kernel
theorem dX4_isSame_202 : decode cX4_isSame 202 = .ok (.iload_n 3, 1) := by decide +kernel
theorem dX4_isSame_203 : decode cX4_isSame 203 = .ok (.ifCond .ne 7, 3) := by decide +kernel
theorem dX4_isSame_206 : decode cX4_isSame 206 = .ok (.dconst 0, 1) := by decide +kernel
theorem dX4_isSame_207 : decode cX4_isSame 207 = .ok (.goto 8, 3) := by decide +kernel
theorem dX4_isSame_210 : decode cX4_isSame 210 = .ok (.iload_n 2, 1) := by decide +kernel
theorem dX4_isSame_211 : decode cX4_isSame 211 = .ok (.i2d, 1) := by decide +kernel
theorem dX4_isSame_212 : decode cX4_isSame 212 = .ok (.iload_n 3, 1) := by decide +kernel
theorem dX4_isSame_213 : decode cX4_isSame 213 = .ok (.i2d, 1) := by decide +kernel
theorem dX4_isSame_214 : decode cX4_isSame 214 = .ok (.ddiv, 1) := by decide +kernel
theorem dX4_isSame_215 : decode cX4_isSame 215 = .ok (.dcmp .l, 1) := by decide +kernel
theorem dX4_isSame_216 : decode cX4_isSame 216 = .ok (.ifCond .ne 7, 3) := by decide +kernel
theorem dX4_isSame_219 : decode cX4_isSame 219 = .ok (.iconst 1, 1) := by decide +kernel
theorem dX4_isSame_220 : decode cX4_isSame 220 = .ok (.goto 4, 3) := by decide +kernel
theorem dX4_isSame_223 : decode cX4_isSame 223 = .ok (.iconst 0, 1) := by decide +kernel
theorem dX4_isSame_224 : decode cX4_isSame 224 = .ok (.ireturn, 1) := by decide +kernel
theorem dX5_init_0 : decode cX5_init 0 = .ok (.aload_n 0, 1) := by decide +kernel
theorem dX5_init_1 : decode cX5_init 1 = .ok (.invokespecial 1, 3) := by decide +kernel
theorem dX5_init_4 : decode cX5_init 4 = .ok (.return_, 1) := by decide +kernel
theorem dJ9_max_7cf53_0 : decode cJ9_max_7cf53 0 = .ok (.iload_n 0, 1) := by decide +kernel
theorem dJ9_max_7cf53_1 : decode cJ9_max_7cf53 1 = .ok (.iload_n 1, 1) := by decide +kernel
theorem dJ9_max_7cf53_2 : decode cJ9_max_7cf53 2 = .ok (.if_icmp .lt 7, 3) := by decide +kernel
theorem dJ9_max_7cf53_5 : decode cJ9_max_7cf53 5 = .ok (.iload_n 0, 1) := by decide +kernel
theorem dJ9_max_7cf53_6 : decode cJ9_max_7cf53 6 = .ok (.goto 4, 3) := by decide +kernel
theorem dJ9_max_7cf53_9 : decode cJ9_max_7cf53 9 = .ok (.iload_n 1, 1) := by decide +kernel
theorem dJ9_max_7cf53_10 : decode cJ9_max_7cf53 10 = .ok (.ireturn, 1) := by decide +kernel
theorem dJ9_min_f86c9_0 : decode cJ9_min_f86c9 0 = .ok (.lload_n 0, 1) := by decide +kernel
theorem dJ9_min_f86c9_1 : decode cJ9_min_f86c9 1 = .ok (.lload_n 2, 1) := by decide +kernel
theorem dJ9_min_f86c9_2 : decode cJ9_min_f86c9 2 = .ok (.lcmp, 1) := by decide +kernel
theorem dJ9_min_f86c9_3 : decode cJ9_min_f86c9 3 = .ok (.ifCond .gt 7, 3) := by decide +kernel
theorem dJ9_min_f86c9_6 : decode cJ9_min_f86c9 6 = .ok (.lload_n 0, 1) := by decide +kernel
theorem dJ9_min_f86c9_7 : decode cJ9_min_f86c9 7 = .ok (.goto 4, 3) := by decide +kernel
theorem dJ9_min_f86c9_10 : decode cJ9_min_f86c9 10 = .ok (.lload_n 2, 1) := by decide +kernel
theorem dJ9_min_f86c9_11 : decode cJ9_min_f86c9 11 = .ok (.lreturn, 1) := by decide +kernel
theorem dL_below_0 : decode cL_below 0 = .ok (.iload_n 0, 1) := by decide +kernel
theorem dL_below_1 : decode cL_below 1 = .ok (.ldc 7, 2) := by decide +kernel
theorem dL_below_3 : decode cL_below 3 = .ok (.iand, 1) := by decide +kernel
theorem dL_below_4 : decode cL_below 4 = .ok (.iload_n 1, 1) := by decide +kernel
theorem dL_below_5 : decode cL_below 5 = .ok (.irem, 1) := by decide +kernel
theorem dL_below_6 : decode cL_below 6 = .ok (.ireturn, 1) := by decide +kernel
theorem dL_cell_0 : decode cL_cell 0 = .ok (.iload_n 1, 1) := by decide +kernel
theorem dL_cell_1 : decode cL_cell 1 = .ok (.aload_n 0, 1) := by decide +kernel
theorem dL_cell_2 : decode cL_cell 2 = .ok (.arraylength, 1) := by decide +kernel
theorem dL_cell_3 : decode cL_cell 3 = .ok (.if_icmp .ge 9, 3) := by decide +kernel
theorem dL_cell_6 : decode cL_cell 6 = .ok (.aload_n 0, 1) := by decide +kernel
theorem dL_cell_7 : decode cL_cell 7 = .ok (.iload_n 1, 1) := by decide +kernel
theorem dL_cell_8 : decode cL_cell 8 = .ok (.iaload, 1) := by decide +kernel
theorem dL_cell_9 : decode cL_cell 9 = .ok (.goto 9, 3) := by decide +kernel
theorem dL_cell_12 : decode cL_cell 12 = .ok (.ldc 8, 2) := by decide +kernel
theorem dL_cell_14 : decode cL_cell 14 = .ok (.iload_n 1, 1) := by decide +kernel
theorem dL_cell_15 : decode cL_cell 15 = .ok (.iconst 3, 1) := by decide +kernel
theorem dL_cell_16 : decode cL_cell 16 = .ok (.iadd, 1) := by decide +kernel
theorem dL_cell_17 : decode cL_cell 17 = .ok (.imul, 1) := by decide +kernel
theorem dL_cell_18 : decode cL_cell 18 = .ok (.ireturn, 1) := by decide +kernel
set_option maxRecDepth 20000 in
theorem ggL_act_L_below : GoodIn wsL_act wsL_below := goodIn_r _ [21, 22] (by decide +kernel) (by decide +kernel)
set_option maxRecDepth 20000 in
theorem gL_act_L_below : GoodIn wsL_act (va_wsS RL 15 yL_below wsL_below) := goodIn_app (goodIn_of _ (by decide +kernel)) ggL_act_L_below
set_option maxRecDepth 20000 in
theorem ggL_act_X3_setDeaths : GoodIn wsL_act wsX3_setDeaths := goodIn_ca (goodIn_ca (goodIn_r _ [27, 28, 29, 30, 31, 32, 33, 34, 26, 35, 36, 37, 38, 39, 40, 41, 42, 43, 44, 45, 265, 266, 267, 268, 269] (by decide +kernel) (by decide +kernel)) (goodIn_sub (fun _ h => List.mem_cons_of_mem _ (List.mem_append_left _ (List.mem_append_left _ (List.mem_append_right _ h)))) (by decide +kernel))) (goodIn_sub (fun _ h => List.mem_cons_of_mem _ (List.mem_append_left _ (List.mem_append_right _ h))) (by decide +kernel))
set_option maxRecDepth 20000 in
theorem gL_act_X3_setDeaths : GoodIn wsL_act (wsV RL 25 RX3 yX3_setDeaths wsX3_setDeaths) := goodIn_app (goodIn_of _ (by decide +kernel)) ggL_act_X3_setDeaths
set_option maxRecDepth 20000 in
theorem ggL_act_X3_setRate : GoodIn wsL_act wsX3_setRate := goodIn_ca (goodIn_ca (goodIn_r _ [49, 28, 29, 30, 31, 32, 50, 51, 52, 39, 53, 54, 55, 56, 57, 58, 265, 266, 267, 268, 269] (by decide +kernel) (by decide +kernel)) (goodIn_sub (fun _ h => List.mem_cons_of_mem _ (List.mem_append_left _ (List.mem_append_left _ (List.mem_append_right _ h)))) (by decide +kernel))) (goodIn_sub (fun _ h => List.mem_cons_of_mem _ (List.mem_append_left _ (List.mem_append_right _ h))) (by decide +kernel))
set_option maxRecDepth 20000 in
theorem gL_act_X3_setRate : GoodIn wsL_act (wsV RL 33 RX3 yX3_setRate wsX3_setRate) := goodIn_app (goodIn_of _ (by decide +kernel)) ggL_act_X3_setRate
set_option maxRecDepth 20000 in
theorem ggL_act_X4_kept : GoodIn wsL_act wsX4_kept := goodIn_r _ [63, 64, 65, 66, 67, 68, 69, 70, 62, 71, 72, 73, 258, 259, 260, 261, 262, 263, 264, 252, 253, 254, 255, 256, 257] (by decide +kernel) (by decide +kernel)
set_option maxRecDepth 20000 in
theorem gL_act_X4_kept : GoodIn wsL_act (wsV RL 42 RX4 yX4_kept wsX4_kept) := goodIn_app (goodIn_of _ (by decide +kernel)) ggL_act_X4_kept
set_option maxRecDepth 20000 in
theorem ggL_act_X3_die : GoodIn wsL_act wsX3_die := goodIn_ca (goodIn_ca (goodIn_r _ [77, 78, 79, 80, 32, 81, 82, 83, 84, 26, 85, 28, 29, 86, 87, 88, 89, 90, 91, 92, 93, 94, 95, 96, 97, 98, 99, 100, 101, 39, 102, 54, 103, 104, 105, 106, 107, 108, 109, 110, 111, 112, 113, 114, 115, 37, 38, 40, 41, 34, 35, 265, 266, 267, 270, 271, 272, 273, 274, 275, 276, 277, 278, 279, 280, 281, 282, 283, 268, 269] (by decide +kernel) (by decide +kernel)) (goodIn_sub (fun _ h => List.mem_cons_of_mem _ (List.mem_append_right _ h)) (by decide +kernel))) (goodIn_sub (fun _ h => List.mem_cons_of_mem _ (List.mem_append_left _ (List.mem_append_left _ (List.mem_append_right _ h)))) (by decide +kernel))
set_option maxRecDepth 20000 in
theorem gL_act_X3_die : GoodIn wsL_act (wsV RL 46 RX3 yX3_die wsX3_die) := goodIn_app (goodIn_of _ (by decide +kernel)) ggL_act_X3_die
set_option maxRecDepth 20000 in
theorem ggL_act_X4_back : GoodIn wsL_act wsX4_back := goodIn_r _ [119, 64, 120, 73, 121, 60, 61, 62, 63, 65, 66, 67, 68, 69, 70, 71, 72, 258, 259, 260, 261, 262, 263, 264, 252, 253, 254, 255, 256, 257] (by decide +kernel) (by decide +kernel)
set_option maxRecDepth 20000 in
theorem gL_act_X4_back : GoodIn wsL_act (wsV RL 53 RX4 yX4_back wsX4_back) := goodIn_app (goodIn_of _ (by decide +kernel)) ggL_act_X4_back
set_option maxRecDepth 20000 in
theorem ggL_act_X3_giveUp : GoodIn wsL_act wsX3_giveUp := goodIn_ca (goodIn_ca (goodIn_r _ [125, 78, 79, 80, 32, 81, 126, 82, 83, 84, 26, 85, 28, 29, 86, 87, 88, 89, 90, 91, 92, 127, 128, 129, 96, 130, 131, 132, 94, 95, 97, 98, 133, 134, 135, 39, 136, 54, 137, 138, 100, 101, 102, 103, 104, 105, 106, 107, 108, 109, 110, 111, 112, 113, 114, 115, 37, 38, 40, 41, 34, 35, 139, 140, 141, 142, 143, 144, 265, 266, 267, 270, 271, 272, 273, 274, 275, 276, 277, 278, 279, 280, 281, 282, 283, 268, 269] (by decide +kernel) (by decide +kernel)) (goodIn_sub (fun _ h => List.mem_cons_of_mem _ (List.mem_append_right _ h)) (by decide +kernel))) (goodIn_sub (fun _ h => List.mem_cons_of_mem _ (List.mem_append_left _ (List.mem_append_left _ (List.mem_append_right _ h)))) (by decide +kernel))
set_option maxRecDepth 20000 in
theorem gL_act_X3_giveUp : GoodIn wsL_act (wsV RL 65 RX3 yX3_giveUp wsX3_giveUp) := goodIn_app (goodIn_of _ (by decide +kernel)) ggL_act_X3_giveUp
set_option maxRecDepth 20000 in
theorem ggL_act_X4_come : GoodIn wsL_act wsX4_come := goodIn_r _ [148, 149, 150, 151, 252, 253, 254, 255, 256, 257] (by decide +kernel) (by decide +kernel)
set_option maxRecDepth 20000 in
theorem gL_act_X4_come : GoodIn wsL_act (wsV RL 70 RX4 yX4_come wsX4_come) := goodIn_app (goodIn_of _ (by decide +kernel)) ggL_act_X4_come
set_option maxRecDepth 20000 in
theorem ggL_act_X3_put : GoodIn wsL_act wsX3_put := goodIn_ca (goodIn_r _ [155, 30, 31, 156, 157, 80, 158, 159, 160, 161, 90, 162, 143, 163, 265, 266, 267, 277, 278, 279, 280, 281, 282, 283] (by decide +kernel) (by decide +kernel)) (goodIn_sub (fun _ h => List.mem_cons_of_mem _ (List.mem_append_left _ (List.mem_append_right _ h))) (by decide +kernel))
set_option maxRecDepth 20000 in
theorem gL_act_X3_put : GoodIn wsL_act (wsV RL 74 RX3 yX3_put wsX3_put) := goodIn_app (goodIn_of _ (by decide +kernel)) ggL_act_X3_put
set_option maxRecDepth 20000 in
theorem ggL_act_X4_pass : GoodIn wsL_act wsX4_pass := goodIn_r _ [167, 149, 73, 168, 169, 64, 67, 170, 65, 66, 120, 171, 172, 173, 146, 147, 62, 148, 150, 151, 252, 253, 254, 255, 256, 257, 258, 259, 260, 261, 262, 263, 264] (by decide +kernel) (by decide +kernel)
set_option maxRecDepth 20000 in
theorem gL_act_X4_pass : GoodIn wsL_act (wsV RL 77 RX4 yX4_pass wsX4_pass) := goodIn_app (goodIn_of _ (by decide +kernel)) ggL_act_X4_pass
set_option maxRecDepth 20000 in
theorem ggL_act_X3_pass : GoodIn wsL_act wsX3_pass := goodIn_ca (goodIn_r _ [177, 80, 178, 179, 180, 26, 181, 30, 31, 182, 183, 184, 90, 185, 186, 187, 188, 189, 143, 190, 191, 192, 193, 194, 51, 52, 39, 53, 54, 195, 160, 161, 162, 163, 196, 88, 89, 91, 92, 197, 94, 95, 96, 97, 98, 198, 199, 200, 201, 202, 203, 204, 205, 131, 206, 140, 141, 142, 144, 265, 266, 267, 277, 278, 279, 280, 281, 282, 283, 268, 269, 270, 271, 272, 273, 274, 275, 276] (by decide +kernel) (by decide +kernel)) (goodIn_sub (fun _ h => List.mem_cons_of_mem _ (List.mem_append_left _ (List.mem_append_right _ h))) (by decide +kernel))
set_option maxRecDepth 20000 in
theorem gL_act_X3_pass : GoodIn wsL_act (wsV RL 81 RX3 yX3_pass wsX3_pass) := goodIn_app (goodIn_of _ (by decide +kernel)) ggL_act_X3_pass
set_option maxRecDepth 20000 in
theorem ggL_act_X4_worth : GoodIn wsL_act wsX4_worth := goodIn_r _ [71, 72, 73, 252, 253, 254, 255, 256, 257] (by decide +kernel) (by decide +kernel)
set_option maxRecDepth 20000 in
theorem gL_act_X4_worth : GoodIn wsL_act (wsV RL 83 RX4 yX4_worth wsX4_worth) := goodIn_app (goodIn_of _ (by decide +kernel)) ggL_act_X4_worth
set_option maxRecDepth 20000 in
theorem ggL_act_X5_init : GoodIn wsL_act wsX5_init := goodIn_r _ [209, 210, 211, 212] (by decide +kernel) (by decide +kernel)
set_option maxRecDepth 20000 in
theorem gL_act_X5_init_n86 : GoodIn wsL_act (wsX5_init) := ggL_act_X5_init
set_option maxRecDepth 20000 in
theorem ggL_act_X4_price : GoodIn wsL_act wsX4_price := goodIn_r _ [216, 73, 68, 69, 70, 62, 71, 72, 252, 253, 254, 255, 256, 257] (by decide +kernel) (by decide +kernel)
set_option maxRecDepth 20000 in
theorem gL_act_X4_price : GoodIn wsL_act (wsV RL 96 RX4 yX4_price wsX4_price) := goodIn_app (goodIn_of _ (by decide +kernel)) ggL_act_X4_price
set_option maxRecDepth 20000 in
theorem ggL_act_X3_buy : GoodIn wsL_act wsX3_buy := goodIn_ca (goodIn_ca (goodIn_r _ [220, 78, 79, 80, 32, 221, 222, 26, 223, 30, 31, 33, 34, 35, 224, 225, 226, 227, 228, 229, 230, 231, 232, 90, 233, 192, 234, 235, 236, 39, 237, 54, 111, 112, 113, 114, 115, 37, 38, 40, 41, 238, 239, 240, 241, 242, 243, 244, 245, 246, 196, 88, 89, 91, 92, 247, 248, 249, 96, 250, 205, 203, 202, 131, 98, 204, 251, 195, 160, 161, 162, 143, 163, 265, 266, 267, 277, 278, 279, 280, 281, 282, 283, 268, 269, 270, 271, 272, 273, 274, 275, 276] (by decide +kernel) (by decide +kernel)) (goodIn_sub (fun _ h => List.mem_cons_of_mem _ (List.mem_append_right _ h)) (by decide +kernel))) (goodIn_sub (fun _ h => List.mem_cons_of_mem _ (List.mem_append_left _ (List.mem_append_right _ h))) (by decide +kernel))
set_option maxRecDepth 20000 in
theorem gL_act_X3_buy : GoodIn wsL_act (wsV RL 102 RX3 yX3_buy wsX3_buy) := goodIn_app (goodIn_of _ (by decide +kernel)) ggL_act_X3_buy
theorem dL_act_0 : decode cL_act 0 = .ok (.aload_n 1, 1) := by decide +kernel
theorem dL_act_1 : decode cL_act 1 = .ok (.getfield 9, 3) := by decide +kernel
theorem dL_act_4 : decode cL_act 4 = .ok (.arraylength, 1) := by decide +kernel
theorem dL_act_5 : decode cL_act 5 = .ok (.istore_n 3, 1) := by decide +kernel
theorem dL_act_6 : decode cL_act 6 = .ok (.iload_n 3, 1) := by decide +kernel
theorem dL_act_7 : decode cL_act 7 = .ok (.ifCond .ne 7, 3) := by decide +kernel
theorem dL_act_10 : decode cL_act 10 = .ok (.iconst 0, 1) := by decide +kernel
theorem dL_act_11 : decode cL_act 11 = .ok (.goto 10, 3) := by decide +kernel
theorem dL_act_14 : decode cL_act 14 = .ok (.iload_n 2, 1) := by decide +kernel
theorem dL_act_15 : decode cL_act 15 = .ok (.iconst 1, 1) := by decide +kernel
theorem dL_act_16 : decode cL_act 16 = .ok (.ishr, 1) := by decide +kernel
theorem dL_act_17 : decode cL_act 17 = .ok (.iload_n 3, 1) := by decide +kernel
theorem dL_act_18 : decode cL_act 18 = .ok (.invokestatic 15, 3) := by decide +kernel
theorem dL_act_21 : decode cL_act 21 = .ok (.istore 4, 2) := by decide +kernel
theorem dL_act_23 : decode cL_act 23 = .ok (.iload_n 3, 1) := by decide +kernel
theorem dL_act_24 : decode cL_act 24 = .ok (.ifCond .ne 7, 3) := by decide +kernel
theorem dL_act_27 : decode cL_act 27 = .ok (.aconst_null, 1) := by decide +kernel
theorem dL_act_28 : decode cL_act 28 = .ok (.goto 10, 3) := by decide +kernel
theorem dL_act_31 : decode cL_act 31 = .ok (.aload_n 1, 1) := by decide +kernel
theorem dL_act_32 : decode cL_act 32 = .ok (.getfield 9, 3) := by decide +kernel
theorem dL_act_35 : decode cL_act 35 = .ok (.iload 4, 2) := by decide +kernel
theorem dL_act_37 : decode cL_act 37 = .ok (.aaload, 1) := by decide +kernel
theorem dL_act_38 : decode cL_act 38 = .ok (.astore 5, 2) := by decide +kernel
theorem dL_act_40 : decode cL_act 40 = .ok (.iload_n 2, 1) := by decide +kernel
theorem dL_act_41 : decode cL_act 41 = .ok (.bipush 9, 2) := by decide +kernel
theorem dL_act_43 : decode cL_act 43 = .ok (.ishr, 1) := by decide +kernel
theorem dL_act_44 : decode cL_act 44 = .ok (.bipush 16, 2) := by decide +kernel
theorem dL_act_46 : decode cL_act 46 = .ok (.invokestatic 15, 3) := by decide +kernel
theorem dL_act_49 : decode cL_act 49 = .ok (.tableswitch 484 0 9 #[55, 131, 199, 252, 252, 348, 348, 415, 415, 415], 55) := by decide +kernel
theorem dL_act_104 : decode cL_act 104 = .ok (.iload_n 2, 1) := by decide +kernel
theorem dL_act_105 : decode cL_act 105 = .ok (.iconst 1, 1) := by decide +kernel
theorem dL_act_106 : decode cL_act 106 = .ok (.ishr, 1) := by decide +kernel
theorem dL_act_107 : decode cL_act 107 = .ok (.bipush 50, 2) := by decide +kernel
theorem dL_act_109 : decode cL_act 109 = .ok (.invokestatic 15, 3) := by decide +kernel
theorem dL_act_112 : decode cL_act 112 = .ok (.istore 6, 2) := by decide +kernel
theorem dL_act_114 : decode cL_act 114 = .ok (.aload_n 1, 1) := by decide +kernel
theorem dL_act_115 : decode cL_act 115 = .ok (.getfield 21, 3) := by decide +kernel
theorem dL_act_118 : decode cL_act 118 = .ok (.iload 6, 2) := by decide +kernel
theorem dL_act_120 : decode cL_act 120 = .ok (.iaload, 1) := by decide +kernel
theorem dL_act_121 : decode cL_act 121 = .ok (.istore 7, 2) := by decide +kernel
theorem dL_act_123 : decode cL_act 123 = .ok (.aload_n 1, 1) := by decide +kernel
theorem dL_act_124 : decode cL_act 124 = .ok (.getfield 21, 3) := by decide +kernel
theorem dL_act_127 : decode cL_act 127 = .ok (.iload 6, 2) := by decide +kernel
theorem dL_act_129 : decode cL_act 129 = .ok (.iload_n 2, 1) := by decide +kernel
theorem dL_act_130 : decode cL_act 130 = .ok (.iconst 3, 1) := by decide +kernel
theorem dL_act_131 : decode cL_act 131 = .ok (.ishr, 1) := by decide +kernel
theorem dL_act_132 : decode cL_act 132 = .ok (.iload_n 2, 1) := by decide +kernel
theorem dL_act_133 : decode cL_act 133 = .ok (.iconst 4, 1) := by decide +kernel
theorem dL_act_134 : decode cL_act 134 = .ok (.invokestatic 15, 3) := by decide +kernel
theorem dL_act_137 : decode cL_act 137 = .ok (.ifCond .ne 9, 3) := by decide +kernel
theorem dL_act_140 : decode cL_act 140 = .ok (.sipush 1001, 3) := by decide +kernel
theorem dL_act_143 : decode cL_act 143 = .ok (.goto 6, 3) := by decide +kernel
theorem dL_act_146 : decode cL_act 146 = .ok (.sipush 300, 3) := by decide +kernel
theorem dL_act_149 : decode cL_act 149 = .ok (.invokestatic 15, 3) := by decide +kernel
theorem dL_act_152 : decode cL_act 152 = .ok (.iastore, 1) := by decide +kernel
theorem dL_act_153 : decode cL_act 153 = .ok (.aload_n 0, 1) := by decide +kernel
theorem dL_act_154 : decode cL_act 154 = .ok (.iload 6, 2) := by decide +kernel
theorem dL_act_156 : decode cL_act 156 = .ok (.bipush 50, 2) := by decide +kernel
theorem dL_act_158 : decode cL_act 158 = .ok (.iadd, 1) := by decide +kernel
theorem dL_act_159 : decode cL_act 159 = .ok (.aload_n 1, 1) := by decide +kernel
theorem dL_act_160 : decode cL_act 160 = .ok (.getfield 21, 3) := by decide +kernel
theorem dL_act_163 : decode cL_act 163 = .ok (.iload 6, 2) := by decide +kernel
theorem dL_act_165 : decode cL_act 165 = .ok (.iaload, 1) := by decide +kernel
theorem dL_act_166 : decode cL_act 166 = .ok (.invokevirtual 25, 3) := by decide +kernel
theorem dL_act_169 : decode cL_act 169 = .ok (.iload 7, 2) := by decide +kernel
theorem dL_act_171 : decode cL_act 171 = .ok (.if_icmp .ne 7, 3) := by decide +kernel
theorem dL_act_174 : decode cL_act 174 = .ok (.iconst 1, 1) := by decide +kernel
theorem dL_act_175 : decode cL_act 175 = .ok (.goto 4, 3) := by decide +kernel
theorem dL_act_178 : decode cL_act 178 = .ok (.iconst 0, 1) := by decide +kernel
theorem dL_act_179 : decode cL_act 179 = .ok (.ireturn, 1) := by decide +kernel
theorem dL_act_180 : decode cL_act 180 = .ok (.iload_n 2, 1) := by decide +kernel
theorem dL_act_181 : decode cL_act 181 = .ok (.iconst 1, 1) := by decide +kernel
theorem dL_act_182 : decode cL_act 182 = .ok (.ishr, 1) := by decide +kernel
theorem dL_act_183 : decode cL_act 183 = .ok (.iconst 3, 1) := by decide +kernel
theorem dL_act_184 : decode cL_act 184 = .ok (.invokestatic 15, 3) := by decide +kernel
theorem dL_act_187 : decode cL_act 187 = .ok (.istore 8, 2) := by decide +kernel
theorem dL_act_189 : decode cL_act 189 = .ok (.aload_n 1, 1) := by decide +kernel
theorem dL_act_190 : decode cL_act 190 = .ok (.getfield 30, 3) := by decide +kernel
theorem dL_act_193 : decode cL_act 193 = .ok (.iload 8, 2) := by decide +kernel
theorem dL_act_195 : decode cL_act 195 = .ok (.iaload, 1) := by decide +kernel
theorem dL_act_196 : decode cL_act 196 = .ok (.istore 9, 2) := by decide +kernel
theorem dL_act_198 : decode cL_act 198 = .ok (.aload_n 1, 1) := by decide +kernel
theorem dL_act_199 : decode cL_act 199 = .ok (.getfield 30, 3) := by decide +kernel
theorem dL_act_202 : decode cL_act 202 = .ok (.iload 8, 2) := by decide +kernel

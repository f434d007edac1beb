theorem dX4_wi_6 : decode cX4_wi 6 = .ok (.iload_n 1, 1) := by decide +kernel
theorem dX4_wi_7 : decode cX4_wi 7 = .ok (.imul, 1) := by decide +kernel
theorem dX4_wi_8 : decode cX4_wi 8 = .ok (.iload_n 2, 1) := by decide +kernel
theorem dX4_wi_9 : decode cX4_wi 9 = .ok (.iadd, 1) := by decide +kernel
theorem dX4_wi_10 : decode cX4_wi 10 = .ok (.iaload, 1) := by decide +kernel
theorem dX4_wi_11 : decode cX4_wi 11 = .ok (.ireturn, 1) := by decide +kernel
theorem dX4_let_0 : decode cX4_let 0 = .ok (.aload_n 0, 1) := by decide +kernel
theorem dX4_let_1 : decode cX4_let 1 = .ok (.getfield 16, 3) := by decide +kernel
theorem dX4_let_4 : decode cX4_let 4 = .ok (.bipush 7, 2) := by decide +kernel
theorem dX4_let_6 : decode cX4_let 6 = .ok (.iload_n 1, 1) := by decide +kernel
theorem dX4_let_7 : decode cX4_let 7 = .ok (.imul, 1) := by decide +kernel
theorem dX4_let_8 : decode cX4_let 8 = .ok (.iload_n 2, 1) := by decide +kernel
theorem dX4_let_9 : decode cX4_let 9 = .ok (.iadd, 1) := by decide +kernel
theorem dX4_let_10 : decode cX4_let 10 = .ok (.iload_n 3, 1) := by decide +kernel
theorem dX4_let_11 : decode cX4_let 11 = .ok (.iastore, 1) := by decide +kernel
theorem dX4_let_12 : decode cX4_let 12 = .ok (.return_, 1) := by decide +kernel
set_option maxRecDepth 20000 in
theorem ggX4_isAlive_X4_wi : GoodIn wsX4_isAlive wsX4_wi := goodIn_r _ [5, 6, 7, 8, 9, 10, 11, 12, 13] (by decide +kernel) (by decide +kernel)
set_option maxRecDepth 20000 in
theorem gX4_isAlive_X4_wi : GoodIn wsX4_isAlive (wsV RX4 39 RX4 yX4_wi wsX4_wi) := goodIn_app (goodIn_of _ (by decide +kernel)) ggX4_isAlive_X4_wi
theorem dX4_isAlive_0 : decode cX4_isAlive 0 = .ok (.aload_n 0, 1) := by decide +kernel
theorem dX4_isAlive_1 : decode cX4_isAlive 1 = .ok (.iload_n 1, 1) := by decide +kernel
theorem dX4_isAlive_2 : decode cX4_isAlive 2 = .ok (.iconst 4, 1) := by decide +kernel
theorem dX4_isAlive_3 : decode cX4_isAlive 3 = .ok (.invokevirtual 39, 3) := by decide +kernel
theorem dX4_isAlive_6 : decode cX4_isAlive 6 = .ok (.ifCond .ne 7, 3) := by decide +kernel
theorem dX4_isAlive_9 : decode cX4_isAlive 9 = .ok (.iconst 1, 1) := by decide +kernel
theorem dX4_isAlive_10 : decode cX4_isAlive 10 = .ok (.goto 4, 3) := by decide +kernel
theorem dX4_isAlive_13 : decode cX4_isAlive 13 = .ok (.iconst 0, 1) := by decide +kernel
theorem dX4_isAlive_14 : decode cX4_isAlive 14 = .ok (.ireturn, 1) := by decide +kernel
theorem dX4_reckon_0 : decode cX4_reckon 0 = .ok (.iconst 0, 1) := by decide +kernel
theorem dX4_reckon_1 : decode cX4_reckon 1 = .ok (.istore_n 1, 1) := by decide +kernel
theorem dX4_reckon_2 : decode cX4_reckon 2 = .ok (.iload_n 1, 1) := by decide +kernel
theorem dX4_reckon_3 : decode cX4_reckon 3 = .ok (.bipush 30, 2) := by decide +kernel
theorem dX4_reckon_5 : decode cX4_reckon 5 = .ok (.if_icmp .gt 91, 3) := by decide +kernel
theorem dX4_reckon_8 : decode cX4_reckon 8 = .ok (.bipush 49, 2) := by decide +kernel
theorem dX4_reckon_10 : decode cX4_reckon 10 = .ok (.istore_n 2, 1) := by decide +kernel
theorem dX4_reckon_11 : decode cX4_reckon 11 = .ok (.iload_n 2, 1) := by decide +kernel
theorem dX4_reckon_12 : decode cX4_reckon 12 = .ok (.ifCond .lt 78, 3) := by decide +kernel
theorem dX4_reckon_15 : decode cX4_reckon 15 = .ok (.iload_n 1, 1) := by decide +kernel
theorem dX4_reckon_16 : decode cX4_reckon 16 = .ok (.ifCond .ne 18, 3) := by decide +kernel
theorem dX4_reckon_19 : decode cX4_reckon 19 = .ok (.sipush 1000, 3) := by decide +kernel
theorem dX4_reckon_22 : decode cX4_reckon 22 = .ok (.aload_n 0, 1) := by decide +kernel
theorem dX4_reckon_23 : decode cX4_reckon 23 = .ok (.getfield 22, 3) := by decide +kernel
theorem dX4_reckon_26 : decode cX4_reckon 26 = .ok (.iload_n 2, 1) := by decide +kernel
theorem dX4_reckon_27 : decode cX4_reckon 27 = .ok (.iconst 1, 1) := by decide +kernel
theorem dX4_reckon_28 : decode cX4_reckon 28 = .ok (.iadd, 1) := by decide +kernel
theorem dX4_reckon_29 : decode cX4_reckon 29 = .ok (.iaload, 1) := by decide +kernel
theorem dX4_reckon_30 : decode cX4_reckon 30 = .ok (.iadd, 1) := by decide +kernel
theorem dX4_reckon_31 : decode cX4_reckon 31 = .ok (.goto 18, 3) := by decide +kernel
theorem dX4_reckon_34 : decode cX4_reckon 34 = .ok (.aload_n 0, 1) := by decide +kernel
theorem dX4_reckon_35 : decode cX4_reckon 35 = .ok (.getfield 22, 3) := by decide +kernel
theorem dX4_reckon_38 : decode cX4_reckon 38 = .ok (.bipush 51, 2) := by decide +kernel
theorem dX4_reckon_40 : decode cX4_reckon 40 = .ok (.iload_n 1, 1) := by decide +kernel
theorem dX4_reckon_41 : decode cX4_reckon 41 = .ok (.iconst 1, 1) := by decide +kernel
theorem dX4_reckon_42 : decode cX4_reckon 42 = .ok (.isub, 1) := by decide +kernel
theorem dX4_reckon_43 : decode cX4_reckon 43 = .ok (.imul, 1) := by decide +kernel
theorem dX4_reckon_44 : decode cX4_reckon 44 = .ok (.iload_n 2, 1) := by decide +kernel
theorem dX4_reckon_45 : decode cX4_reckon 45 = .ok (.iadd, 1) := by decide +kernel
theorem dX4_reckon_46 : decode cX4_reckon 46 = .ok (.iconst 1, 1) := by decide +kernel
theorem dX4_reckon_47 : decode cX4_reckon 47 = .ok (.iadd, 1) := by decide +kernel
theorem dX4_reckon_48 : decode cX4_reckon 48 = .ok (.iaload, 1) := by decide +kernel
theorem dX4_reckon_49 : decode cX4_reckon 49 = .ok (.istore_n 3, 1) := by decide +kernel
theorem dX4_reckon_50 : decode cX4_reckon 50 = .ok (.aload_n 0, 1) := by decide +kernel
theorem dX4_reckon_51 : decode cX4_reckon 51 = .ok (.getfield 22, 3) := by decide +kernel
theorem dX4_reckon_54 : decode cX4_reckon 54 = .ok (.bipush 51, 2) := by decide +kernel
theorem dX4_reckon_56 : decode cX4_reckon 56 = .ok (.iload_n 1, 1) := by decide +kernel
theorem dX4_reckon_57 : decode cX4_reckon 57 = .ok (.imul, 1) := by decide +kernel
theorem dX4_reckon_58 : decode cX4_reckon 58 = .ok (.iload_n 2, 1) := by decide +kernel
theorem dX4_reckon_59 : decode cX4_reckon 59 = .ok (.iadd, 1) := by decide +kernel
theorem dX4_reckon_60 : decode cX4_reckon 60 = .ok (.sipush 1000, 3) := by decide +kernel
theorem dX4_reckon_63 : decode cX4_reckon 63 = .ok (.aload_n 0, 1) := by decide +kernel
theorem dX4_reckon_64 : decode cX4_reckon 64 = .ok (.getfield 13, 3) := by decide +kernel
theorem dX4_reckon_67 : decode cX4_reckon 67 = .ok (.iload_n 2, 1) := by decide +kernel
theorem dX4_reckon_68 : decode cX4_reckon 68 = .ok (.iaload, 1) := by decide +kernel
theorem dX4_reckon_69 : decode cX4_reckon 69 = .ok (.isub, 1) := by decide +kernel
theorem dX4_reckon_70 : decode cX4_reckon 70 = .ok (.iload_n 3, 1) := by decide +kernel
theorem dX4_reckon_71 : decode cX4_reckon 71 = .ok (.imul, 1) := by decide +kernel
theorem dX4_reckon_72 : decode cX4_reckon 72 = .ok (.sipush 1000, 3) := by decide +kernel
theorem dX4_reckon_75 : decode cX4_reckon 75 = .ok (.aload_n 0, 1) := by decide +kernel
theorem dX4_reckon_76 : decode cX4_reckon 76 = .ok (.getfield 7, 3) := by decide +kernel
theorem dX4_reckon_79 : decode cX4_reckon 79 = .ok (.iconst 0, 1) := by decide +kernel
theorem dX4_reckon_80 : decode cX4_reckon 80 = .ok (.iaload, 1) := by decide +kernel
theorem dX4_reckon_81 : decode cX4_reckon 81 = .ok (.iadd, 1) := by decide +kernel
theorem dX4_reckon_82 : decode cX4_reckon 82 = .ok (.idiv, 1) := by decide +kernel
theorem dX4_reckon_83 : decode cX4_reckon 83 = .ok (.iastore, 1) := by decide +kernel
theorem dX4_reckon_84 : decode cX4_reckon 84 = .ok (.iinc 2 (-1), 3) := by decide +kernel
theorem dX4_reckon_87 : decode cX4_reckon 87 = .ok (.goto (-76), 3) := by decide +kernel
theorem dX4_reckon_90 : decode cX4_reckon 90 = .ok (.iinc 1 1, 3) := by decide +kernel
theorem dX4_reckon_93 : decode cX4_reckon 93 = .ok (.goto (-91), 3) := by decide +kernel
theorem dX4_reckon_96 : decode cX4_reckon 96 = .ok (.return_, 1) := by decide +kernel
theorem dX4_worthOf_0 : decode cX4_worthOf 0 = .ok (.aload_n 0, 1) := by decide +kernel
theorem dX4_worthOf_1 : decode cX4_worthOf 1 = .ok (.getfield 22, 3) := by decide +kernel
theorem dX4_worthOf_4 : decode cX4_worthOf 4 = .ok (.bipush 51, 2) := by decide +kernel
theorem dX4_worthOf_6 : decode cX4_worthOf 6 = .ok (.iload_n 2, 1) := by decide +kernel
theorem dX4_worthOf_7 : decode cX4_worthOf 7 = .ok (.imul, 1) := by decide +kernel
theorem dX4_worthOf_8 : decode cX4_worthOf 8 = .ok (.iload_n 1, 1) := by decide +kernel
theorem dX4_worthOf_9 : decode cX4_worthOf 9 = .ok (.iadd, 1) := by decide +kernel
theorem dX4_worthOf_10 : decode cX4_worthOf 10 = .ok (.bipush 50, 2) := by decide +kernel
theorem dX4_worthOf_12 : decode cX4_worthOf 12 = .ok (.isub, 1) := by decide +kernel
theorem dX4_worthOf_13 : decode cX4_worthOf 13 = .ok (.iaload, 1) := by decide +kernel
theorem dX4_worthOf_14 : decode cX4_worthOf 14 = .ok (.ireturn, 1) := by decide +kernel
set_option maxRecDepth 20000 in
theorem ggX4_priceOf_X4_worthOf : GoodIn wsX4_priceOf wsX4_worthOf := goodIn_r _ [10, 11, 12, 13, 14, 15, 16, 17, 18] (by decide +kernel) (by decide +kernel)
set_option maxRecDepth 20000 in
theorem gX4_priceOf_X4_worthOf : GoodIn wsX4_priceOf (wsV RX4 43 RX4 yX4_worthOf wsX4_worthOf) := goodIn_app (goodIn_of _ (by decide +kernel)) ggX4_priceOf_X4_worthOf
theorem dX4_priceOf_0 : decode cX4_priceOf 0 = .ok (.iload_n 2, 1) := by decide +kernel
theorem dX4_priceOf_1 : decode cX4_priceOf 1 = .ok (.aload_n 0, 1) := by decide +kernel
theorem dX4_priceOf_2 : decode cX4_priceOf 2 = .ok (.iload_n 1, 1) := by decide +kernel
theorem dX4_priceOf_3 : decode cX4_priceOf 3 = .ok (.iload_n 3, 1) := by decide +kernel
theorem dX4_priceOf_4 : decode cX4_priceOf 4 = .ok (.invokevirtual 43, 3) := by decide +kernel
theorem dX4_priceOf_7 : decode cX4_priceOf 7 = .ok (.imul, 1) := by decide +kernel
theorem dX4_priceOf_8 : decode cX4_priceOf 8 = .ok (.sipush 1000, 3) := by decide +kernel
theorem dX4_priceOf_11 : decode cX4_priceOf 11 = .ok (.idiv, 1) := by decide +kernel
theorem dX4_priceOf_12 : decode cX4_priceOf 12 = .ok (.istore 4, 2) := by decide +kernel
theorem dX4_priceOf_14 : decode cX4_priceOf 14 = .ok (.aload_n 0, 1) := by decide +kernel
theorem dX4_priceOf_15 : decode cX4_priceOf 15 = .ok (.iload_n 1, 1) := by decide +kernel
theorem dX4_priceOf_16 : decode cX4_priceOf 16 = .ok (.iload_n 3, 1) := by decide +kernel
theorem dX4_priceOf_17 : decode cX4_priceOf 17 = .ok (.invokevirtual 43, 3) := by decide +kernel
theorem dX4_priceOf_20 : decode cX4_priceOf 20 = .ok (.ifCond .ne 7, 3) := by decide +kernel
theorem dX4_priceOf_23 : decode cX4_priceOf 23 = .ok (.iconst 0, 1) := by decide +kernel
theorem dX4_priceOf_24 : decode cX4_priceOf 24 = .ok (.goto 22, 3) := by decide +kernel
theorem dX4_priceOf_27 : decode cX4_priceOf 27 = .ok (.iconst 1, 1) := by decide +kernel
theorem dX4_priceOf_28 : decode cX4_priceOf 28 = .ok (.iload 4, 2) := by decide +kernel
theorem dX4_priceOf_30 : decode cX4_priceOf 30 = .ok (.iload 4, 2) := by decide +kernel
theorem dX4_priceOf_32 : decode cX4_priceOf 32 = .ok (.aload_n 0, 1) := by decide +kernel
theorem dX4_priceOf_33 : decode cX4_priceOf 33 = .ok (.getfield 7, 3) := by decide +kernel
theorem dX4_priceOf_36 : decode cX4_priceOf 36 = .ok (.iconst 1, 1) := by decide +kernel
theorem dX4_priceOf_37 : decode cX4_priceOf 37 = .ok (.iaload, 1) := by decide +kernel
theorem dX4_priceOf_38 : decode cX4_priceOf 38 = .ok (.imul, 1) := by decide +kernel
theorem dX4_priceOf_39 : decode cX4_priceOf 39 = .ok (.bipush 100, 2) := by decide +kernel
theorem dX4_priceOf_41 : decode cX4_priceOf 41 = .ok (.idiv, 1) := by decide +kernel
theorem dX4_priceOf_42 : decode cX4_priceOf 42 = .ok (.iadd, 1) := by decide +kernel
theorem dX4_priceOf_43 : decode cX4_priceOf 43 = .ok (.invokestatic 46, 3) := by decide +kernel
theorem dX4_priceOf_46 : decode cX4_priceOf 46 = .ok (.ireturn, 1) := by decide +kernel
set_option maxRecDepth 20000 in
theorem ggX4_kept_X4_isAlive : GoodIn wsX4_kept wsX4_isAlive := goodIn_r _ [5, 6, 7, 8, 4, 9, 10, 16, 17, 18, 19, 20, 21, 22] (by decide +kernel) (by decide +kernel)
set_option maxRecDepth 20000 in
theorem gX4_kept_X4_isAlive : GoodIn wsX4_kept (wsV RX4 51 RX4 yX4_isAlive wsX4_isAlive) := goodIn_app (goodIn_of _ (by decide +kernel)) ggX4_kept_X4_isAlive
set_option maxRecDepth 20000 in
theorem ggX4_kept_X4_wi : GoodIn wsX4_kept wsX4_wi := goodIn_r _ [9, 10, 16, 17, 18, 19, 20, 21, 22] (by decide +kernel) (by decide +kernel)
set_option maxRecDepth 20000 in
theorem gX4_kept_X4_wi : GoodIn wsX4_kept (wsV RX4 39 RX4 yX4_wi wsX4_wi) := goodIn_app (goodIn_of _ (by decide +kernel)) ggX4_kept_X4_wi
set_option maxRecDepth 20000 in
theorem ggX4_kept_X4_worthOf : GoodIn wsX4_kept wsX4_worthOf := goodIn_r _ [14, 15, 16, 17, 18, 19, 20, 21, 22] (by decide +kernel) (by decide +kernel)
set_option maxRecDepth 20000 in
theorem gX4_kept_X4_worthOf : GoodIn wsX4_kept (wsV RX4 43 RX4 yX4_worthOf wsX4_worthOf) := goodIn_app (goodIn_of _ (by decide +kernel)) ggX4_kept_X4_worthOf
theorem dX4_kept_0 : decode cX4_kept 0 = .ok (.aload_n 0, 1) := by decide +kernel
theorem dX4_kept_1 : decode cX4_kept 1 = .ok (.iload_n 1, 1) := by decide +kernel
theorem dX4_kept_2 : decode cX4_kept 2 = .ok (.invokevirtual 51, 3) := by decide +kernel
theorem dX4_kept_5 : decode cX4_kept 5 = .ok (.ifCond .eq 33, 3) := by decide +kernel
theorem dX4_kept_8 : decode cX4_kept 8 = .ok (.aload_n 0, 1) := by decide +kernel
theorem dX4_kept_9 : decode cX4_kept 9 = .ok (.iload_n 1, 1) := by decide +kernel
theorem dX4_kept_10 : decode cX4_kept 10 = .ok (.iconst 1, 1) := by decide +kernel
theorem dX4_kept_11 : decode cX4_kept 11 = .ok (.invokevirtual 39, 3) := by decide +kernel
theorem dX4_kept_14 : decode cX4_kept 14 = .ok (.aload_n 0, 1) := by decide +kernel
theorem dX4_kept_15 : decode cX4_kept 15 = .ok (.aload_n 0, 1) := by decide +kernel
theorem dX4_kept_16 : decode cX4_kept 16 = .ok (.iload_n 1, 1) := by decide +kernel
theorem dX4_kept_17 : decode cX4_kept 17 = .ok (.iconst 0, 1) := by decide +kernel
theorem dX4_kept_18 : decode cX4_kept 18 = .ok (.invokevirtual 39, 3) := by decide +kernel
theorem dX4_kept_21 : decode cX4_kept 21 = .ok (.aload_n 0, 1) := by decide +kernel
theorem dX4_kept_22 : decode cX4_kept 22 = .ok (.iload_n 1, 1) := by decide +kernel
theorem dX4_kept_23 : decode cX4_kept 23 = .ok (.iconst 2, 1) := by decide +kernel
theorem dX4_kept_24 : decode cX4_kept 24 = .ok (.invokevirtual 39, 3) := by decide +kernel
theorem dX4_kept_27 : decode cX4_kept 27 = .ok (.invokevirtual 43, 3) := by decide +kernel
theorem dX4_kept_30 : decode cX4_kept 30 = .ok (.imul, 1) := by decide +kernel
theorem dX4_kept_31 : decode cX4_kept 31 = .ok (.sipush 1000, 3) := by decide +kernel
theorem dX4_kept_34 : decode cX4_kept 34 = .ok (.idiv, 1) := by decide +kernel
theorem dX4_kept_35 : decode cX4_kept 35 = .ok (.goto 4, 3) := by decide +kernel
theorem dX4_kept_38 : decode cX4_kept 38 = .ok (.iconst 0, 1) := by decide +kernel
theorem dX4_kept_39 : decode cX4_kept 39 = .ok (.ireturn, 1) := by decide +kernel
set_option maxRecDepth 20000 in
theorem ggX4_keptForAll_X4_kept : GoodIn wsX4_keptForAll wsX4_kept := goodIn_r _ [6, 7, 8, 9, 5, 10, 11, 12, 13, 14, 15, 16, 17, 18, 19, 20, 21, 22, 23, 24, 25, 26, 27] (by decide +kernel) (by decide +kernel)
set_option maxRecDepth 20000 in
theorem gX4_keptForAll_X4_kept : GoodIn wsX4_keptForAll (wsV RX4 55 RX4 yX4_kept wsX4_kept) := goodIn_app (goodIn_of _ (by decide +kernel)) ggX4_keptForAll_X4_kept
theorem dX4_keptForAll_0 : decode cX4_keptForAll 0 = .ok (.iconst 0, 1) := by decide +kernel
theorem dX4_keptForAll_1 : decode cX4_keptForAll 1 = .ok (.istore_n 1, 1) := by decide +kernel
theorem dX4_keptForAll_2 : decode cX4_keptForAll 2 = .ok (.iconst 0, 1) := by decide +kernel
theorem dX4_keptForAll_3 : decode cX4_keptForAll 3 = .ok (.istore_n 2, 1) := by decide +kernel
theorem dX4_keptForAll_4 : decode cX4_keptForAll 4 = .ok (.iload_n 2, 1) := by decide +kernel
theorem dX4_keptForAll_5 : decode cX4_keptForAll 5 = .ok (.aload_n 0, 1) := by decide +kernel
theorem dX4_keptForAll_6 : decode cX4_keptForAll 6 = .ok (.getfield 36, 3) := by decide +kernel
theorem dX4_keptForAll_9 : decode cX4_keptForAll 9 = .ok (.if_icmp .ge 17, 3) := by decide +kernel
theorem dX4_keptForAll_12 : decode cX4_keptForAll 12 = .ok (.iload_n 1, 1) := by decide +kernel
theorem dX4_keptForAll_13 : decode cX4_keptForAll 13 = .ok (.aload_n 0, 1) := by decide +kernel
theorem dX4_keptForAll_14 : decode cX4_keptForAll 14 = .ok (.iload_n 2, 1) := by decide +kernel
theorem dX4_keptForAll_15 : decode cX4_keptForAll 15 = .ok (.invokevirtual 55, 3) := by decide +kernel
theorem dX4_keptForAll_18 : decode cX4_keptForAll 18 = .ok (.iadd, 1) := by decide +kernel
theorem dX4_keptForAll_19 : decode cX4_keptForAll 19 = .ok (.istore_n 1, 1) := by decide +kernel
theorem dX4_keptForAll_20 : decode cX4_keptForAll 20 = .ok (.iinc 2 1, 3) := by decide +kernel
theorem dX4_keptForAll_23 : decode cX4_keptForAll 23 = .ok (.goto (-19), 3) := by decide +kernel
theorem dX4_keptForAll_26 : decode cX4_keptForAll 26 = .ok (.iload_n 1, 1) := by decide +kernel
theorem dX4_keptForAll_27 : decode cX4_keptForAll 27 = .ok (.ireturn, 1) := by decide +kernel
set_option maxRecDepth 20000 in
theorem ggX4_back_X4_isAlive : GoodIn wsX4_back wsX4_isAlive := goodIn_r _ [6, 7, 8, 9, 5, 10, 11, 21, 22, 23, 24, 25, 26, 27] (by decide +kernel) (by decide +kernel)
set_option maxRecDepth 20000 in
theorem gX4_back_X4_isAlive : GoodIn wsX4_back (wsV RX4 51 RX4 yX4_isAlive wsX4_isAlive) := goodIn_app (goodIn_of _ (by decide +kernel)) ggX4_back_X4_isAlive
set_option maxRecDepth 20000 in
theorem ggX4_back_X4_wi : GoodIn wsX4_back wsX4_wi := goodIn_r _ [10, 11, 21, 22, 23, 24, 25, 26, 27] (by decide +kernel) (by decide +kernel)
set_option maxRecDepth 20000 in
theorem gX4_back_X4_wi : GoodIn wsX4_back (wsV RX4 39 RX4 yX4_wi wsX4_wi) := goodIn_app (goodIn_of _ (by decide +kernel)) ggX4_back_X4_wi
set_option maxRecDepth 20000 in
theorem ggX4_back_X4_kept : GoodIn wsX4_back wsX4_kept := goodIn_r _ [15, 2, 3, 4, 5, 6, 7, 8, 9, 10, 11, 16, 17, 18, 19, 20, 21, 22, 23, 24, 25, 26, 27] (by decide +kernel) (by decide +kernel)
set_option maxRecDepth 20000 in
theorem gX4_back_X4_kept : GoodIn wsX4_back (wsV RX4 55 RX4 yX4_kept wsX4_kept) := goodIn_app (goodIn_of _ (by decide +kernel)) ggX4_back_X4_kept
theorem dX4_back_0 : decode cX4_back 0 = .ok (.aload_n 0, 1) := by decide +kernel
theorem dX4_back_1 : decode cX4_back 1 = .ok (.iload_n 1, 1) := by decide +kernel
theorem dX4_back_2 : decode cX4_back 2 = .ok (.invokevirtual 51, 3) := by decide +kernel
theorem dX4_back_5 : decode cX4_back 5 = .ok (.ifCond .eq 13, 3) := by decide +kernel
theorem dX4_back_8 : decode cX4_back 8 = .ok (.aload_n 0, 1) := by decide +kernel
theorem dX4_back_9 : decode cX4_back 9 = .ok (.iload_n 1, 1) := by decide +kernel
theorem dX4_back_10 : decode cX4_back 10 = .ok (.iconst 3, 1) := by decide +kernel
theorem dX4_back_11 : decode cX4_back 11 = .ok (.invokevirtual 39, 3) := by decide +kernel
theorem dX4_back_14 : decode cX4_back 14 = .ok (.iconst 2, 1) := by decide +kernel
theorem dX4_back_15 : decode cX4_back 15 = .ok (.if_icmp .ge 7, 3) := by decide +kernel
theorem dX4_back_18 : decode cX4_back 18 = .ok (.iconst 0, 1) := by decide +kernel
theorem dX4_back_19 : decode cX4_back 19 = .ok (.goto 24, 3) := by decide +kernel
theorem dX4_back_22 : decode cX4_back 22 = .ok (.aload_n 0, 1) := by decide +kernel
theorem dX4_back_23 : decode cX4_back 23 = .ok (.iload_n 1, 1) := by decide +kernel
theorem dX4_back_24 : decode cX4_back 24 = .ok (.invokevirtual 55, 3) := by decide +kernel
theorem dX4_back_27 : decode cX4_back 27 = .ok (.aload_n 0, 1) := by decide +kernel
theorem dX4_back_28 : decode cX4_back 28 = .ok (.iload_n 1, 1) := by decide +kernel
theorem dX4_back_29 : decode cX4_back 29 = .ok (.invokevirtual 55, 3) := by decide +kernel
theorem dX4_back_32 : decode cX4_back 32 = .ok (.aload_n 0, 1) := by decide +kernel
theorem dX4_back_33 : decode cX4_back 33 = .ok (.getfield 7, 3) := by decide +kernel
theorem dX4_back_36 : decode cX4_back 36 = .ok (.iconst 2, 1) := by decide +kernel
theorem dX4_back_37 : decode cX4_back 37 = .ok (.iaload, 1) := by decide +kernel
theorem dX4_back_38 : decode cX4_back 38 = .ok (.imul, 1) := by decide +kernel
theorem dX4_back_39 : decode cX4_back 39 = .ok (.bipush 100, 2) := by decide +kernel
theorem dX4_back_41 : decode cX4_back 41 = .ok (.idiv, 1) := by decide +kernel
theorem dX4_back_42 : decode cX4_back 42 = .ok (.isub, 1) := by decide +kernel
theorem dX4_back_43 : decode cX4_back 43 = .ok (.ireturn, 1) := by decide +kernel
theorem dX4_comeIn_0 : decode cX4_comeIn 0 = .ok (.aload_n 0, 1) := by decide +kernel
theorem dX4_comeIn_1 : decode cX4_comeIn 1 = .ok (.getfield 19, 3) := by decide +kernel
theorem dX4_comeIn_4 : decode cX4_comeIn 4 = .ok (.iconst 1, 1) := by decide +kernel
theorem dX4_comeIn_5 : decode cX4_comeIn 5 = .ok (.ldc2_w 59, 3) := by decide +kernel
theorem dX4_comeIn_8 : decode cX4_comeIn 8 = .ok (.aload_n 0, 1) := by decide +kernel
theorem dX4_comeIn_9 : decode cX4_comeIn 9 = .ok (.getfield 19, 3) := by decide +kernel
theorem dX4_comeIn_12 : decode cX4_comeIn 12 = .ok (.iconst 1, 1) := by decide +kernel
theorem dX4_comeIn_13 : decode cX4_comeIn 13 = .ok (.iaload, 1) := by decide +kernel
theorem dX4_comeIn_14 : decode cX4_comeIn 14 = .ok (.i2l, 1) := by decide +kernel
theorem dX4_comeIn_15 : decode cX4_comeIn 15 = .ok (.lload_n 1, 1) := by decide +kernel
theorem dX4_comeIn_16 : decode cX4_comeIn 16 = .ok (.ladd, 1) := by decide +kernel
theorem dX4_comeIn_17 : decode cX4_comeIn 17 = .ok (.invokestatic 61, 3) := by decide +kernel
theorem dX4_comeIn_20 : decode cX4_comeIn 20 = .ok (.l2i, 1) := by decide +kernel
theorem dX4_comeIn_21 : decode cX4_comeIn 21 = .ok (.iastore, 1) := by decide +kernel
theorem dX4_comeIn_22 : decode cX4_comeIn 22 = .ok (.return_, 1) := by decide +kernel
set_option maxRecDepth 20000 in
theorem ggX4_payOut_X4_wi : GoodIn wsX4_payOut wsX4_wi := goodIn_r _ [6, 7, 12, 13, 14, 15, 16, 17, 18] (by decide +kernel) (by decide +kernel)
set_option maxRecDepth 20000 in
theorem gX4_payOut_X4_wi : GoodIn wsX4_payOut (wsV RX4 39 RX4 yX4_wi wsX4_wi) := goodIn_app (goodIn_of _ (by decide +kernel)) ggX4_payOut_X4_wi
set_option maxRecDepth 20000 in
theorem ggX4_payOut_X4_let : GoodIn wsX4_payOut wsX4_let := goodIn_r _ [11, 7, 12, 13, 14, 15, 16, 17, 18] (by decide +kernel) (by decide +kernel)
set_option maxRecDepth 20000 in
theorem gX4_payOut_X4_let : GoodIn wsX4_payOut (wsV RX4 65 RX4 yX4_let wsX4_let) := goodIn_app (goodIn_of _ (by decide +kernel)) ggX4_payOut_X4_let
theorem dX4_payOut_0 : decode cX4_payOut 0 = .ok (.aload_n 0, 1) := by decide +kernel
theorem dX4_payOut_1 : decode cX4_payOut 1 = .ok (.getfield 19, 3) := by decide +kernel
theorem dX4_payOut_4 : decode cX4_payOut 4 = .ok (.iconst 1, 1) := by decide +kernel
theorem dX4_payOut_5 : decode cX4_payOut 5 = .ok (.dup2, 1) := by decide +kernel
theorem dX4_payOut_6 : decode cX4_payOut 6 = .ok (.iaload, 1) := by decide +kernel
theorem dX4_payOut_7 : decode cX4_payOut 7 = .ok (.iload_n 2, 1) := by decide +kernel
theorem dX4_payOut_8 : decode cX4_payOut 8 = .ok (.isub, 1) := by decide +kernel
theorem dX4_payOut_9 : decode cX4_payOut 9 = .ok (.iastore, 1) := by decide +kernel
theorem dX4_payOut_10 : decode cX4_payOut 10 = .ok (.aload_n 0, 1) := by decide +kernel
theorem dX4_payOut_11 : decode cX4_payOut 11 = .ok (.getfield 19, 3) := by decide +kernel
theorem dX4_payOut_14 : decode cX4_payOut 14 = .ok (.iconst 2, 1) := by decide +kernel
theorem dX4_payOut_15 : decode cX4_payOut 15 = .ok (.dup2, 1) := by decide +kernel
theorem dX4_payOut_16 : decode cX4_payOut 16 = .ok (.iaload, 1) := by decide +kernel
theorem dX4_payOut_17 : decode cX4_payOut 17 = .ok (.iload_n 2, 1) := by decide +kernel
theorem dX4_payOut_18 : decode cX4_payOut 18 = .ok (.iadd, 1) := by decide +kernel
theorem dX4_payOut_19 : decode cX4_payOut 19 = .ok (.iastore, 1) := by decide +kernel
theorem dX4_payOut_20 : decode cX4_payOut 20 = .ok (.aload_n 0, 1) := by decide +kernel
theorem dX4_payOut_21 : decode cX4_payOut 21 = .ok (.iload_n 1, 1) := by decide +kernel
theorem dX4_payOut_22 : decode cX4_payOut 22 = .ok (.iconst 5, 1) := by decide +kernel
theorem dX4_payOut_23 : decode cX4_payOut 23 = .ok (.aload_n 0, 1) := by decide +kernel
theorem dX4_payOut_24 : decode cX4_payOut 24 = .ok (.iload_n 1, 1) := by decide +kernel
theorem dX4_payOut_25 : decode cX4_payOut 25 = .ok (.iconst 5, 1) := by decide +kernel
theorem dX4_payOut_26 : decode cX4_payOut 26 = .ok (.invokevirtual 39, 3) := by decide +kernel
theorem dX4_payOut_29 : decode cX4_payOut 29 = .ok (.iload_n 2, 1) := by decide +kernel
theorem dX4_payOut_30 : decode cX4_payOut 30 = .ok (.iadd, 1) := by decide +kernel
theorem dX4_payOut_31 : decode cX4_payOut 31 = .ok (.invokevirtual 65, 3) := by decide +kernel
theorem dX4_payOut_34 : decode cX4_payOut 34 = .ok (.return_, 1) := by decide +kernel
set_option maxRecDepth 20000 in
theorem ggX4_setDeaths_X4_isAge : GoodIn wsX4_setDeaths wsX4_isAge := goodIn_r _ [6, 7, 8, 5, 9] (by decide +kernel) (by decide +kernel)
set_option maxRecDepth 20000 in
theorem gX4_setDeaths_X4_isAge : GoodIn wsX4_setDeaths (va_wsS RX4 69 yX4_isAge wsX4_isAge) := goodIn_app (goodIn_of _ (by decide +kernel)) ggX4_setDeaths_X4_isAge
set_option maxRecDepth 20000 in
theorem ggX4_setDeaths_X4_fail : GoodIn wsX4_setDeaths wsX4_fail := goodIn_r _ [13, 1, 20, 21, 22, 23, 24, 25, 26] (by decide +kernel) (by decide +kernel)
set_option maxRecDepth 20000 in
theorem gX4_setDeaths_X4_fail : GoodIn wsX4_setDeaths (wsV RX4 72 RX4 yX4_fail wsX4_fail) := goodIn_app (goodIn_of _ (by decide +kernel)) ggX4_setDeaths_X4_fail
set_option maxRecDepth 20000 in
theorem ggX4_setDeaths_X4_isIn : GoodIn wsX4_setDeaths wsX4_isIn := goodIn_r _ [9] (by decide +kernel) (by decide +kernel)
set_option maxRecDepth 20000 in
theorem gX4_setDeaths_X4_isIn : GoodIn wsX4_setDeaths (va_wsS RX4 32 yX4_isIn wsX4_isIn) := goodIn_app (goodIn_of _ (by decide +kernel)) ggX4_setDeaths_X4_isIn
set_option maxRecDepth 20000 in
theorem ggX4_setDeaths_X4_reckon : GoodIn wsX4_setDeaths wsX4_reckon := goodIn_r _ [17, 18, 2, 19, 20, 21, 22, 23, 24, 25, 26] (by decide +kernel) (by decide +kernel)
set_option maxRecDepth 20000 in
theorem gX4_setDeaths_X4_reckon : GoodIn wsX4_setDeaths (wsV RX4 25 RX4 yX4_reckon wsX4_reckon) := goodIn_app (goodIn_of _ (by decide +kernel)) ggX4_setDeaths_X4_reckon
theorem dX4_setDeaths_0 : decode cX4_setDeaths 0 = .ok (.aload_n 0, 1) := by decide +kernel
theorem dX4_setDeaths_1 : decode cX4_setDeaths 1 = .ok (.iconst 0, 1) := by decide +kernel
theorem dX4_setDeaths_2 : decode cX4_setDeaths 2 = .ok (.putfield 28, 3) := by decide +kernel
theorem dX4_setDeaths_5 : decode cX4_setDeaths 5 = .ok (.iload_n 1, 1) := by decide +kernel
theorem dX4_setDeaths_6 : decode cX4_setDeaths 6 = .ok (.invokestatic 69, 3) := by decide +kernel
theorem dX4_setDeaths_9 : decode cX4_setDeaths 9 = .ok (.ifCond .ne 9, 3) := by decide +kernel
theorem dX4_setDeaths_12 : decode cX4_setDeaths 12 = .ok (.aload_n 0, 1) := by decide +kernel
theorem dX4_setDeaths_13 : decode cX4_setDeaths 13 = .ok (.iconst 1, 1) := by decide +kernel
theorem dX4_setDeaths_14 : decode cX4_setDeaths 14 = .ok (.invokevirtual 72, 3) := by decide +kernel
theorem dX4_setDeaths_17 : decode cX4_setDeaths 17 = .ok (.ireturn, 1) := by decide +kernel
theorem dX4_setDeaths_18 : decode cX4_setDeaths 18 = .ok (.iload_n 2, 1) := by decide +kernel
theorem dX4_setDeaths_19 : decode cX4_setDeaths 19 = .ok (.iconst 0, 1) := by decide +kernel
theorem dX4_setDeaths_20 : decode cX4_setDeaths 20 = .ok (.sipush 1000, 3) := by decide +kernel
theorem dX4_setDeaths_23 : decode cX4_setDeaths 23 = .ok (.invokestatic 32, 3) := by decide +kernel
theorem dX4_setDeaths_26 : decode cX4_setDeaths 26 = .ok (.ifCond .ne 9, 3) := by decide +kernel
theorem dX4_setDeaths_29 : decode cX4_setDeaths 29 = .ok (.aload_n 0, 1) := by decide +kernel
theorem dX4_setDeaths_30 : decode cX4_setDeaths 30 = .ok (.iconst 2, 1) := by decide +kernel
theorem dX4_setDeaths_31 : decode cX4_setDeaths 31 = .ok (.invokevirtual 72, 3) := by decide +kernel
theorem dX4_setDeaths_34 : decode cX4_setDeaths 34 = .ok (.ireturn, 1) := by decide +kernel
theorem dX4_setDeaths_35 : decode cX4_setDeaths 35 = .ok (.aload_n 0, 1) := by decide +kernel
theorem dX4_setDeaths_36 : decode cX4_setDeaths 36 = .ok (.getfield 13, 3) := by decide +kernel
theorem dX4_setDeaths_39 : decode cX4_setDeaths 39 = .ok (.iload_n 1, 1) := by decide +kernel
theorem dX4_setDeaths_40 : decode cX4_setDeaths 40 = .ok (.bipush 50, 2) := by decide +kernel
theorem dX4_setDeaths_42 : decode cX4_setDeaths 42 = .ok (.isub, 1) := by decide +kernel
theorem dX4_setDeaths_43 : decode cX4_setDeaths 43 = .ok (.iaload, 1) := by decide +kernel
theorem dX4_setDeaths_44 : decode cX4_setDeaths 44 = .ok (.istore_n 3, 1) := by decide +kernel
theorem dX4_setDeaths_45 : decode cX4_setDeaths 45 = .ok (.aload_n 0, 1) := by decide +kernel
theorem dX4_setDeaths_46 : decode cX4_setDeaths 46 = .ok (.getfield 13, 3) := by decide +kernel
theorem dX4_setDeaths_49 : decode cX4_setDeaths 49 = .ok (.iload_n 1, 1) := by decide +kernel
theorem dX4_setDeaths_50 : decode cX4_setDeaths 50 = .ok (.bipush 50, 2) := by decide +kernel
theorem dX4_setDeaths_52 : decode cX4_setDeaths 52 = .ok (.isub, 1) := by decide +kernel
theorem dX4_setDeaths_53 : decode cX4_setDeaths 53 = .ok (.iload_n 2, 1) := by decide +kernel
theorem dX4_setDeaths_54 : decode cX4_setDeaths 54 = .ok (.iastore, 1) := by decide +kernel
theorem dX4_setDeaths_55 : decode cX4_setDeaths 55 = .ok (.aload_n 0, 1) := by decide +kernel
theorem dX4_setDeaths_56 : decode cX4_setDeaths 56 = .ok (.invokevirtual 25, 3) := by decide +kernel
theorem dX4_setDeaths_59 : decode cX4_setDeaths 59 = .ok (.iload_n 3, 1) := by decide +kernel
theorem dX4_setDeaths_60 : decode cX4_setDeaths 60 = .ok (.ireturn, 1) := by decide +kernel
set_option maxRecDepth 20000 in
theorem ggX4_setRate_X4_isIn : GoodIn wsX4_setRate wsX4_isIn := goodIn_r _ [7] (by decide +kernel) (by decide +kernel)
set_option maxRecDepth 20000 in
theorem gX4_setRate_X4_isIn : GoodIn wsX4_setRate (va_wsS RX4 32 yX4_isIn wsX4_isIn) := goodIn_app (goodIn_of _ (by decide +kernel)) ggX4_setRate_X4_isIn
set_option maxRecDepth 20000 in
theorem ggX4_setRate_X4_fail : GoodIn wsX4_setRate wsX4_fail := goodIn_r _ [11, 1, 18, 19, 20, 21, 22, 23, 24] (by decide +kernel) (by decide +kernel)
set_option maxRecDepth 20000 in
theorem gX4_setRate_X4_fail : GoodIn wsX4_setRate (wsV RX4 72 RX4 yX4_fail wsX4_fail) := goodIn_app (goodIn_of _ (by decide +kernel)) ggX4_setRate_X4_fail
set_option maxRecDepth 20000 in
theorem ggX4_setRate_X4_reckon : GoodIn wsX4_setRate wsX4_reckon := goodIn_r _ [15, 16, 17, 3, 18, 19, 20, 21, 22, 23, 24] (by decide +kernel) (by decide +kernel)
set_option maxRecDepth 20000 in
theorem gX4_setRate_X4_reckon : GoodIn wsX4_setRate (wsV RX4 25 RX4 yX4_reckon wsX4_reckon) := goodIn_app (goodIn_of _ (by decide +kernel)) ggX4_setRate_X4_reckon
theorem dX4_setRate_0 : decode cX4_setRate 0 = .ok (.aload_n 0, 1) := by decide +kernel
theorem dX4_setRate_1 : decode cX4_setRate 1 = .ok (.iconst 0, 1) := by decide +kernel
theorem dX4_setRate_2 : decode cX4_setRate 2 = .ok (.putfield 28, 3) := by decide +kernel
theorem dX4_setRate_5 : decode cX4_setRate 5 = .ok (.iload_n 1, 1) := by decide +kernel
theorem dX4_setRate_6 : decode cX4_setRate 6 = .ok (.iconst 0, 1) := by decide +kernel
theorem dX4_setRate_7 : decode cX4_setRate 7 = .ok (.iconst 2, 1) := by decide +kernel
theorem dX4_setRate_8 : decode cX4_setRate 8 = .ok (.invokestatic 32, 3) := by decide +kernel
theorem dX4_setRate_11 : decode cX4_setRate 11 = .ok (.ifCond .ne 9, 3) := by decide +kernel
theorem dX4_setRate_14 : decode cX4_setRate 14 = .ok (.aload_n 0, 1) := by decide +kernel
theorem dX4_setRate_15 : decode cX4_setRate 15 = .ok (.iconst 1, 1) := by decide +kernel
theorem dX4_setRate_16 : decode cX4_setRate 16 = .ok (.invokevirtual 72, 3) := by decide +kernel
theorem dX4_setRate_19 : decode cX4_setRate 19 = .ok (.ireturn, 1) := by decide +kernel
theorem dX4_setRate_20 : decode cX4_setRate 20 = .ok (.iload_n 2, 1) := by decide +kernel
theorem dX4_setRate_21 : decode cX4_setRate 21 = .ok (.iconst 0, 1) := by decide +kernel
theorem dX4_setRate_22 : decode cX4_setRate 22 = .ok (.getstatic 75, 3) := by decide +kernel
theorem dX4_setRate_25 : decode cX4_setRate 25 = .ok (.iload_n 1, 1) := by decide +kernel
theorem dX4_setRate_26 : decode cX4_setRate 26 = .ok (.iaload, 1) := by decide +kernel
theorem dX4_setRate_27 : decode cX4_setRate 27 = .ok (.invokestatic 32, 3) := by decide +kernel
theorem dX4_setRate_30 : decode cX4_setRate 30 = .ok (.ifCond .ne 9, 3) := by decide +kernel
theorem dX4_setRate_33 : decode cX4_setRate 33 = .ok (.aload_n 0, 1) := by decide +kernel
theorem dX4_setRate_34 : decode cX4_setRate 34 = .ok (.iconst 2, 1) := by decide +kernel
theorem dX4_setRate_35 : decode cX4_setRate 35 = .ok (.invokevirtual 72, 3) := by decide +kernel
theorem dX4_setRate_38 : decode cX4_setRate 38 = .ok (.ireturn, 1) := by decide +kernel
theorem dX4_setRate_39 : decode cX4_setRate 39 = .ok (.aload_n 0, 1) := by decide +kernel
theorem dX4_setRate_40 : decode cX4_setRate 40 = .ok (.getfield 7, 3) := by decide +kernel
theorem dX4_setRate_43 : decode cX4_setRate 43 = .ok (.iload_n 1, 1) := by decide +kernel
theorem dX4_setRate_44 : decode cX4_setRate 44 = .ok (.iaload, 1) := by decide +kernel
theorem dX4_setRate_45 : decode cX4_setRate 45 = .ok (.istore_n 3, 1) := by decide +kernel
theorem dX4_setRate_46 : decode cX4_setRate 46 = .ok (.aload_n 0, 1) := by decide +kernel
theorem dX4_setRate_47 : decode cX4_setRate 47 = .ok (.getfield 7, 3) := by decide +kernel
theorem dX4_setRate_50 : decode cX4_setRate 50 = .ok (.iload_n 1, 1) := by decide +kernel
theorem dX4_setRate_51 : decode cX4_setRate 51 = .ok (.iload_n 2, 1) := by decide +kernel
theorem dX4_setRate_52 : decode cX4_setRate 52 = .ok (.iastore, 1) := by decide +kernel
theorem dX4_setRate_53 : decode cX4_setRate 53 = .ok (.aload_n 0, 1) := by decide +kernel
theorem dX4_setRate_54 : decode cX4_setRate 54 = .ok (.invokevirtual 25, 3) := by decide +kernel
theorem dX4_setRate_57 : decode cX4_setRate 57 = .ok (.iload_n 3, 1) := by decide +kernel
theorem dX4_setRate_58 : decode cX4_setRate 58 = .ok (.ireturn, 1) := by decide +kernel
set_option maxRecDepth 20000 in
theorem ggX4_isBought_X4_isAge : GoodIn wsX4_isBought wsX4_isAge := goodIn_r _ [4, 5, 6, 3, 7] (by decide +kernel) (by decide +kernel)
set_option maxRecDepth 20000 in
theorem gX4_isBought_X4_isAge : GoodIn wsX4_isBought (va_wsS RX4 69 yX4_isAge wsX4_isAge) := goodIn_app (goodIn_of _ (by decide +kernel)) ggX4_isBought_X4_isAge
set_option maxRecDepth 20000 in
theorem ggX4_isBought_X4_isSum : GoodIn wsX4_isBought wsX4_isSum := goodIn_r _ [10, 5, 6, 3, 7] (by decide +kernel) (by decide +kernel)
set_option maxRecDepth 20000 in
theorem gX4_isBought_X4_isSum : GoodIn wsX4_isBought (va_wsS RX4 78 yX4_isSum wsX4_isSum) := goodIn_app (goodIn_of _ (by decide +kernel)) ggX4_isBought_X4_isSum
set_option maxRecDepth 20000 in
theorem ggX4_isBought_X4_isLate : GoodIn wsX4_isBought wsX4_isLate := goodIn_r _ [13, 5, 6, 3, 7] (by decide +kernel) (by decide +kernel)
set_option maxRecDepth 20000 in
theorem gX4_isBought_X4_isLate : GoodIn wsX4_isBought (va_wsS RX4 81 yX4_isLate wsX4_isLate) := goodIn_app (goodIn_of _ (by decide +kernel)) ggX4_isBought_X4_isLate
theorem dX4_isBought_0 : decode cX4_isBought 0 = .ok (.iload_n 0, 1) := by decide +kernel
theorem dX4_isBought_1 : decode cX4_isBought 1 = .ok (.invokestatic 69, 3) := by decide +kernel
theorem dX4_isBought_4 : decode cX4_isBought 4 = .ok (.ifCond .eq 21, 3) := by decide +kernel
theorem dX4_isBought_7 : decode cX4_isBought 7 = .ok (.iload_n 1, 1) := by decide +kernel
theorem dX4_isBought_8 : decode cX4_isBought 8 = .ok (.invokestatic 78, 3) := by decide +kernel
theorem dX4_isBought_11 : decode cX4_isBought 11 = .ok (.ifCond .eq 14, 3) := by decide +kernel
theorem dX4_isBought_14 : decode cX4_isBought 14 = .ok (.iload_n 2, 1) := by decide +kernel
theorem dX4_isBought_15 : decode cX4_isBought 15 = .ok (.invokestatic 81, 3) := by decide +kernel
theorem dX4_isBought_18 : decode cX4_isBought 18 = .ok (.ifCond .eq 7, 3) := by decide +kernel
theorem dX4_isBought_21 : decode cX4_isBought 21 = .ok (.iconst 1, 1) := by decide +kernel
theorem dX4_isBought_22 : decode cX4_isBought 22 = .ok (.goto 4, 3) := by decide +kernel
theorem dX4_isBought_25 : decode cX4_isBought 25 = .ok (.iconst 0, 1) := by decide +kernel
theorem dX4_isBought_26 : decode cX4_isBought 26 = .ok (.ireturn, 1) := by decide +kernel
set_option maxRecDepth 20000 in
theorem ggX4_buy_X4_isBought : GoodIn wsX4_buy wsX4_isBought := goodIn_r _ [12, 13, 14, 11, 15, 16, 17, 18, 19, 20, 21, 22, 23, 24] (by decide +kernel) (by decide +kernel)
set_option maxRecDepth 20000 in
theorem gX4_buy_X4_isBought : GoodIn wsX4_buy (va_wsS RX4 84 yX4_isBought wsX4_isBought) := goodIn_app (goodIn_of _ (by decide +kernel)) ggX4_buy_X4_isBought
set_option maxRecDepth 20000 in
theorem ggX4_buy_X4_fail : GoodIn wsX4_buy wsX4_fail := goodIn_r _ [28, 1, 52, 53, 54, 55, 56, 57, 58] (by decide +kernel) (by decide +kernel)
set_option maxRecDepth 20000 in
theorem gX4_buy_X4_fail : GoodIn wsX4_buy (wsV RX4 72 RX4 yX4_fail wsX4_fail) := goodIn_app (goodIn_of _ (by decide +kernel)) ggX4_buy_X4_fail
set_option maxRecDepth 20000 in
theorem ggX4_buy_X4_worthOf : GoodIn wsX4_buy wsX4_worthOf := goodIn_r _ [32, 33, 52, 53, 54, 55, 56, 57, 58] (by decide +kernel) (by decide +kernel)
set_option maxRecDepth 20000 in
theorem gX4_buy_X4_worthOf : GoodIn wsX4_buy (wsV RX4 43 RX4 yX4_worthOf wsX4_worthOf) := goodIn_app (goodIn_of _ (by decide +kernel)) ggX4_buy_X4_worthOf
set_option maxRecDepth 20000 in
theorem ggX4_buy_X4_priceOf : GoodIn wsX4_buy wsX4_priceOf := goodIn_r _ [37, 38, 39, 40, 41, 42, 29, 30, 31, 11, 32, 33, 52, 53, 54, 55, 56, 57, 58] (by decide +kernel) (by decide +kernel)
set_option maxRecDepth 20000 in
theorem gX4_buy_X4_priceOf : GoodIn wsX4_buy (wsV RX4 87 RX4 yX4_priceOf wsX4_priceOf) := goodIn_app (goodIn_of _ (by decide +kernel)) ggX4_buy_X4_priceOf
set_option maxRecDepth 20000 in
theorem ggX4_buy_X4_comeIn : GoodIn wsX4_buy wsX4_comeIn := goodIn_r _ [46, 47, 48, 49, 50, 41, 51, 52, 53, 54, 55, 56, 57, 58] (by decide +kernel) (by decide +kernel)
set_option maxRecDepth 20000 in
theorem gX4_buy_X4_comeIn : GoodIn wsX4_buy (wsV RX4 97 RX4 yX4_comeIn wsX4_comeIn) := goodIn_app (goodIn_of _ (by decide +kernel)) ggX4_buy_X4_comeIn
theorem dX4_buy_0 : decode cX4_buy 0 = .ok (.aload_n 0, 1) := by decide +kernel
theorem dX4_buy_1 : decode cX4_buy 1 = .ok (.iconst 0, 1) := by decide +kernel
theorem dX4_buy_2 : decode cX4_buy 2 = .ok (.putfield 28, 3) := by decide +kernel
theorem dX4_buy_5 : decode cX4_buy 5 = .ok (.iload_n 1, 1) := by decide +kernel
theorem dX4_buy_6 : decode cX4_buy 6 = .ok (.iload_n 2, 1) := by decide +kernel
theorem dX4_buy_7 : decode cX4_buy 7 = .ok (.iload_n 3, 1) := by decide +kernel
theorem dX4_buy_8 : decode cX4_buy 8 = .ok (.invokestatic 84, 3) := by decide +kernel
theorem dX4_buy_11 : decode cX4_buy 11 = .ok (.ifCond .ne 9, 3) := by decide +kernel
theorem dX4_buy_14 : decode cX4_buy 14 = .ok (.aload_n 0, 1) := by decide +kernel
theorem dX4_buy_15 : decode cX4_buy 15 = .ok (.iconst 1, 1) := by decide +kernel
theorem dX4_buy_16 : decode cX4_buy 16 = .ok (.invokevirtual 72, 3) := by decide +kernel
theorem dX4_buy_19 : decode cX4_buy 19 = .ok (.ireturn, 1) := by decide +kernel
theorem dX4_buy_20 : decode cX4_buy 20 = .ok (.aload_n 0, 1) := by decide +kernel
theorem dX4_buy_21 : decode cX4_buy 21 = .ok (.getfield 36, 3) := by decide +kernel
theorem dX4_buy_24 : decode cX4_buy 24 = .ok (.bipush 10, 2) := by decide +kernel
theorem dX4_buy_26 : decode cX4_buy 26 = .ok (.if_icmp .eq 12, 3) := by decide +kernel
theorem dX4_buy_29 : decode cX4_buy 29 = .ok (.aload_n 0, 1) := by decide +kernel
theorem dX4_buy_30 : decode cX4_buy 30 = .ok (.iload_n 1, 1) := by decide +kernel
theorem dX4_buy_31 : decode cX4_buy 31 = .ok (.iload_n 3, 1) := by decide +kernel
theorem dX4_buy_32 : decode cX4_buy 32 = .ok (.invokevirtual 43, 3) := by decide +kernel
theorem dX4_buy_35 : decode cX4_buy 35 = .ok (.ifCond .ne 9, 3) := by decide +kernel
theorem dX4_buy_38 : decode cX4_buy 38 = .ok (.aload_n 0, 1) := by decide +kernel
theorem dX4_buy_39 : decode cX4_buy 39 = .ok (.iconst 2, 1) := by decide +kernel
theorem dX4_buy_40 : decode cX4_buy 40 = .ok (.invokevirtual 72, 3) := by decide +kernel
theorem dX4_buy_43 : decode cX4_buy 43 = .ok (.ireturn, 1) := by decide +kernel
theorem dX4_buy_44 : decode cX4_buy 44 = .ok (.aload_n 0, 1) := by decide +kernel
theorem dX4_buy_45 : decode cX4_buy 45 = .ok (.iload_n 1, 1) := by decide +kernel
theorem dX4_buy_46 : decode cX4_buy 46 = .ok (.iload_n 2, 1) := by decide +kernel
theorem dX4_buy_47 : decode cX4_buy 47 = .ok (.iload_n 3, 1) := by decide +kernel
theorem dX4_buy_48 : decode cX4_buy 48 = .ok (.invokevirtual 87, 3) := by decide +kernel
theorem dX4_buy_51 : decode cX4_buy 51 = .ok (.istore 4, 2) := by decide +kernel
theorem dX4_buy_53 : decode cX4_buy 53 = .ok (.bipush 7, 2) := by decide +kernel
theorem dX4_buy_55 : decode cX4_buy 55 = .ok (.newarray .int, 2) := by decide +kernel
theorem dX4_buy_57 : decode cX4_buy 57 = .ok (.dup, 1) := by decide +kernel
theorem dX4_buy_58 : decode cX4_buy 58 = .ok (.iconst 0, 1) := by decide +kernel
theorem dX4_buy_59 : decode cX4_buy 59 = .ok (.iload_n 1, 1) := by decide +kernel
theorem dX4_buy_60 : decode cX4_buy 60 = .ok (.iastore, 1) := by decide +kernel
theorem dX4_buy_61 : decode cX4_buy 61 = .ok (.dup, 1) := by decide +kernel
theorem dX4_buy_62 : decode cX4_buy 62 = .ok (.iconst 1, 1) := by decide +kernel
theorem dX4_buy_63 : decode cX4_buy 63 = .ok (.iload_n 2, 1) := by decide +kernel
theorem dX4_buy_64 : decode cX4_buy 64 = .ok (.iastore, 1) := by decide +kernel
theorem dX4_buy_65 : decode cX4_buy 65 = .ok (.dup, 1) := by decide +kernel
theorem dX4_buy_66 : decode cX4_buy 66 = .ok (.iconst 2, 1) := by decide +kernel
theorem dX4_buy_67 : decode cX4_buy 67 = .ok (.iload_n 3, 1) := by decide +kernel
theorem dX4_buy_68 : decode cX4_buy 68 = .ok (.iastore, 1) := by decide +kernel
theorem dX4_buy_69 : decode cX4_buy 69 = .ok (.dup, 1) := by decide +kernel
theorem dX4_buy_70 : decode cX4_buy 70 = .ok (.iconst 3, 1) := by decide +kernel
theorem dX4_buy_71 : decode cX4_buy 71 = .ok (.iconst 0, 1) := by decide +kernel
theorem dX4_buy_72 : decode cX4_buy 72 = .ok (.iastore, 1) := by decide +kernel
theorem dX4_buy_73 : decode cX4_buy 73 = .ok (.dup, 1) := by decide +kernel
theorem dX4_buy_74 : decode cX4_buy 74 = .ok (.iconst 4, 1) := by decide +kernel
theorem dX4_buy_75 : decode cX4_buy 75 = .ok (.iconst 0, 1) := by decide +kernel
theorem dX4_buy_76 : decode cX4_buy 76 = .ok (.iastore, 1) := by decide +kernel
theorem dX4_buy_77 : decode cX4_buy 77 = .ok (.dup, 1) := by decide +kernel
theorem dX4_buy_78 : decode cX4_buy 78 = .ok (.iconst 5, 1) := by decide +kernel
theorem dX4_buy_79 : decode cX4_buy 79 = .ok (.iconst 0, 1) := by decide +kernel
theorem dX4_buy_80 : decode cX4_buy 80 = .ok (.iastore, 1) := by decide +kernel
theorem dX4_buy_81 : decode cX4_buy 81 = .ok (.dup, 1) := by decide +kernel
theorem dX4_buy_82 : decode cX4_buy 82 = .ok (.bipush 6, 2) := by decide +kernel
theorem dX4_buy_84 : decode cX4_buy 84 = .ok (.iload 4, 2) := by decide +kernel
theorem dX4_buy_86 : decode cX4_buy 86 = .ok (.iastore, 1) := by decide +kernel
theorem dX4_buy_87 : decode cX4_buy 87 = .ok (.astore 5, 2) := by decide +kernel
theorem dX4_buy_89 : decode cX4_buy 89 = .ok (.aload 5, 2) := by decide +kernel
theorem dX4_buy_91 : decode cX4_buy 91 = .ok (.iconst 0, 1) := by decide +kernel
theorem dX4_buy_92 : decode cX4_buy 92 = .ok (.aload_n 0, 1) := by decide +kernel
theorem dX4_buy_93 : decode cX4_buy 93 = .ok (.getfield 16, 3) := by decide +kernel
theorem dX4_buy_96 : decode cX4_buy 96 = .ok (.bipush 7, 2) := by decide +kernel
theorem dX4_buy_98 : decode cX4_buy 98 = .ok (.aload_n 0, 1) := by decide +kernel
theorem dX4_buy_99 : decode cX4_buy 99 = .ok (.getfield 36, 3) := by decide +kernel
theorem dX4_buy_102 : decode cX4_buy 102 = .ok (.imul, 1) := by decide +kernel
theorem dX4_buy_103 : decode cX4_buy 103 = .ok (.bipush 7, 2) := by decide +kernel
theorem dX4_buy_105 : decode cX4_buy 105 = .ok (.invokestatic 91, 3) := by decide +kernel
theorem dX4_buy_108 : decode cX4_buy 108 = .ok (.aload_n 0, 1) := by decide +kernel
theorem dX4_buy_109 : decode cX4_buy 109 = .ok (.dup, 1) := by decide +kernel
theorem dX4_buy_110 : decode cX4_buy 110 = .ok (.getfield 36, 3) := by decide +kernel
theorem dX4_buy_113 : decode cX4_buy 113 = .ok (.iconst 1, 1) := by decide +kernel
theorem dX4_buy_114 : decode cX4_buy 114 = .ok (.iadd, 1) := by decide +kernel
theorem dX4_buy_115 : decode cX4_buy 115 = .ok (.putfield 36, 3) := by decide +kernel
theorem dX4_buy_118 : decode cX4_buy 118 = .ok (.aload_n 0, 1) := by decide +kernel
theorem dX4_buy_119 : decode cX4_buy 119 = .ok (.iload 4, 2) := by decide +kernel
theorem dX4_buy_121 : decode cX4_buy 121 = .ok (.i2l, 1) := by decide +kernel
theorem dX4_buy_122 : decode cX4_buy 122 = .ok (.invokevirtual 97, 3) := by decide +kernel
theorem dX4_buy_125 : decode cX4_buy 125 = .ok (.aload_n 0, 1) := by decide +kernel
theorem dX4_buy_126 : decode cX4_buy 126 = .ok (.getfield 36, 3) := by decide +kernel
theorem dX4_buy_129 : decode cX4_buy 129 = .ok (.iconst 1, 1) := by decide +kernel
theorem dX4_buy_130 : decode cX4_buy 130 = .ok (.isub, 1) := by decide +kernel
theorem dX4_buy_131 : decode cX4_buy 131 = .ok (.ireturn, 1) := by decide +kernel
set_option maxRecDepth 20000 in
theorem ggX4_die_X4_isWidow : GoodIn wsX4_die wsX4_isWidow := goodIn_r _ [6, 7, 8, 9, 5, 10, 37, 38, 39, 40, 41, 42, 43] (by decide +kernel) (by decide +kernel)
set_option maxRecDepth 20000 in
theorem gX4_die_X4_isWidow : GoodIn wsX4_die (wsV RX4 101 RX4 yX4_isWidow wsX4_isWidow) := goodIn_app (goodIn_of _ (by decide +kernel)) ggX4_die_X4_isWidow
set_option maxRecDepth 20000 in
theorem ggX4_die_X4_fail : GoodIn wsX4_die wsX4_fail := goodIn_r _ [14, 1, 37, 38, 39, 40, 41, 42, 43] (by decide +kernel) (by decide +kernel)
set_option maxRecDepth 20000 in
theorem gX4_die_X4_fail : GoodIn wsX4_die (wsV RX4 72 RX4 yX4_fail wsX4_fail) := goodIn_app (goodIn_of _ (by decide +kernel)) ggX4_die_X4_fail
set_option maxRecDepth 20000 in
theorem ggX4_die_X4_isAlive : GoodIn wsX4_die wsX4_isAlive := goodIn_r _ [18, 19, 20, 21, 5, 22, 23, 37, 38, 39, 40, 41, 42, 43] (by decide +kernel) (by decide +kernel)
set_option maxRecDepth 20000 in
theorem gX4_die_X4_isAlive : GoodIn wsX4_die (wsV RX4 51 RX4 yX4_isAlive wsX4_isAlive) := goodIn_app (goodIn_of _ (by decide +kernel)) ggX4_die_X4_isAlive
set_option maxRecDepth 20000 in
theorem ggX4_die_X4_kept : GoodIn wsX4_die wsX4_kept := goodIn_r _ [27, 15, 16, 17, 5, 18, 19, 20, 21, 22, 23, 28, 29, 30, 31, 32, 37, 38, 39, 40, 41, 42, 43] (by decide +kernel) (by decide +kernel)
set_option maxRecDepth 20000 in
theorem gX4_die_X4_kept : GoodIn wsX4_die (wsV RX4 55 RX4 yX4_kept wsX4_kept) := goodIn_app (goodIn_of _ (by decide +kernel)) ggX4_die_X4_kept
set_option maxRecDepth 20000 in
theorem ggX4_die_X4_let : GoodIn wsX4_die wsX4_let := goodIn_r _ [36, 23, 37, 38, 39, 40, 41, 42, 43] (by decide +kernel) (by decide +kernel)
set_option maxRecDepth 20000 in
theorem gX4_die_X4_let : GoodIn wsX4_die (wsV RX4 65 RX4 yX4_let wsX4_let) := goodIn_app (goodIn_of _ (by decide +kernel)) ggX4_die_X4_let
theorem dX4_die_0 : decode cX4_die 0 = .ok (.aload_n 0, 1) := by decide +kernel
theorem dX4_die_1 : decode cX4_die 1 = .ok (.iconst 0, 1) := by decide +kernel
theorem dX4_die_2 : decode cX4_die 2 = .ok (.putfield 28, 3) := by decide +kernel
theorem dX4_die_5 : decode cX4_die 5 = .ok (.aload_n 0, 1) := by decide +kernel
theorem dX4_die_6 : decode cX4_die 6 = .ok (.iload_n 1, 1) := by decide +kernel
theorem dX4_die_7 : decode cX4_die 7 = .ok (.invokevirtual 101, 3) := by decide +kernel
theorem dX4_die_10 : decode cX4_die 10 = .ok (.ifCond .ne 9, 3) := by decide +kernel
theorem dX4_die_13 : decode cX4_die 13 = .ok (.aload_n 0, 1) := by decide +kernel
theorem dX4_die_14 : decode cX4_die 14 = .ok (.iconst 1, 1) := by decide +kernel
theorem dX4_die_15 : decode cX4_die 15 = .ok (.invokevirtual 72, 3) := by decide +kernel
theorem dX4_die_18 : decode cX4_die 18 = .ok (.ireturn, 1) := by decide +kernel
theorem dX4_die_19 : decode cX4_die 19 = .ok (.aload_n 0, 1) := by decide +kernel
theorem dX4_die_20 : decode cX4_die 20 = .ok (.iload_n 1, 1) := by decide +kernel
theorem dX4_die_21 : decode cX4_die 21 = .ok (.invokevirtual 51, 3) := by decide +kernel
theorem dX4_die_24 : decode cX4_die 24 = .ok (.ifCond .ne 9, 3) := by decide +kernel
theorem dX4_die_27 : decode cX4_die 27 = .ok (.aload_n 0, 1) := by decide +kernel
theorem dX4_die_28 : decode cX4_die 28 = .ok (.iconst 2, 1) := by decide +kernel
theorem dX4_die_29 : decode cX4_die 29 = .ok (.invokevirtual 72, 3) := by decide +kernel
theorem dX4_die_32 : decode cX4_die 32 = .ok (.ireturn, 1) := by decide +kernel
theorem dX4_die_33 : decode cX4_die 33 = .ok (.aload_n 0, 1) := by decide +kernel
theorem dX4_die_34 : decode cX4_die 34 = .ok (.iload_n 1, 1) := by decide +kernel
theorem dX4_die_35 : decode cX4_die 35 = .ok (.invokevirtual 55, 3) := by decide +kernel
theorem dX4_die_38 : decode cX4_die 38 = .ok (.istore_n 2, 1) := by decide +kernel
theorem dX4_die_39 : decode cX4_die 39 = .ok (.aload_n 0, 1) := by decide +kernel
theorem dX4_die_40 : decode cX4_die 40 = .ok (.iload_n 1, 1) := by decide +kernel
theorem dX4_die_41 : decode cX4_die 41 = .ok (.iconst 4, 1) := by decide +kernel
theorem dX4_die_42 : decode cX4_die 42 = .ok (.iconst 1, 1) := by decide +kernel
theorem dX4_die_43 : decode cX4_die 43 = .ok (.invokevirtual 65, 3) := by decide +kernel
theorem dX4_die_46 : decode cX4_die 46 = .ok (.iload_n 2, 1) := by decide +kernel
theorem dX4_die_47 : decode cX4_die 47 = .ok (.ireturn, 1) := by decide +kernel
set_option maxRecDepth 20000 in
theorem ggX4_giveUp_X4_isWidow : GoodIn wsX4_giveUp wsX4_isWidow := goodIn_r _ [6, 7, 8, 9, 5, 10, 47, 48, 49, 50, 51, 52, 53] (by decide +kernel) (by decide +kernel)
set_option maxRecDepth 20000 in
theorem gX4_giveUp_X4_isWidow : GoodIn wsX4_giveUp (wsV RX4 101 RX4 yX4_isWidow wsX4_isWidow) := goodIn_app (goodIn_of _ (by decide +kernel)) ggX4_giveUp_X4_isWidow
set_option maxRecDepth 20000 in
theorem ggX4_giveUp_X4_fail : GoodIn wsX4_giveUp wsX4_fail := goodIn_r _ [14, 1, 47, 48, 49, 50, 51, 52, 53] (by decide +kernel) (by decide +kernel)
set_option maxRecDepth 20000 in
theorem gX4_giveUp_X4_fail : GoodIn wsX4_giveUp (wsV RX4 72 RX4 yX4_fail wsX4_fail) := goodIn_app (goodIn_of _ (by decide +kernel)) ggX4_giveUp_X4_fail
set_option maxRecDepth 20000 in
theorem ggX4_giveUp_X4_isAlive : GoodIn wsX4_giveUp wsX4_isAlive := goodIn_r _ [18, 19, 20, 21, 5, 22, 23, 47, 48, 49, 50, 51, 52, 53] (by decide +kernel) (by decide +kernel)
set_option maxRecDepth 20000 in
theorem gX4_giveUp_X4_isAlive : GoodIn wsX4_giveUp (wsV RX4 51 RX4 yX4_isAlive wsX4_isAlive) := goodIn_app (goodIn_of _ (by decide +kernel)) ggX4_giveUp_X4_isAlive
set_option maxRecDepth 20000 in
theorem ggX4_giveUp_X4_wi : GoodIn wsX4_giveUp wsX4_wi := goodIn_r _ [22, 23, 47, 48, 49, 50, 51, 52, 53] (by decide +kernel) (by decide +kernel)
set_option maxRecDepth 20000 in
theorem gX4_giveUp_X4_wi : GoodIn wsX4_giveUp (wsV RX4 39 RX4 yX4_wi wsX4_wi) := goodIn_app (goodIn_of _ (by decide +kernel)) ggX4_giveUp_X4_wi
set_option maxRecDepth 20000 in
theorem ggX4_giveUp_X4_back : GoodIn wsX4_giveUp wsX4_back := goodIn_r _ [27, 28, 15, 16, 17, 5, 18, 19, 20, 21, 22, 23, 29, 30, 31, 32, 33, 34, 35, 36, 37, 47, 48, 49, 50, 51, 52, 53] (by decide +kernel) (by decide +kernel)
set_option maxRecDepth 20000 in
theorem gX4_giveUp_X4_back : GoodIn wsX4_giveUp (wsV RX4 104 RX4 yX4_back wsX4_back) := goodIn_app (goodIn_of _ (by decide +kernel)) ggX4_giveUp_X4_back
set_option maxRecDepth 20000 in
theorem ggX4_giveUp_X4_payOut : GoodIn wsX4_giveUp wsX4_payOut := goodIn_r _ [41, 42, 19, 20, 21, 5, 22, 23, 43, 44, 45, 46, 47, 48, 49, 50, 51, 52, 53] (by decide +kernel) (by decide +kernel)
set_option maxRecDepth 20000 in
theorem gX4_giveUp_X4_payOut : GoodIn wsX4_giveUp (wsV RX4 107 RX4 yX4_payOut wsX4_payOut) := goodIn_app (goodIn_of _ (by decide +kernel)) ggX4_giveUp_X4_payOut
set_option maxRecDepth 20000 in
theorem ggX4_giveUp_X4_let : GoodIn wsX4_giveUp wsX4_let := goodIn_r _ [46, 23, 47, 48, 49, 50, 51, 52, 53] (by decide +kernel) (by decide +kernel)
set_option maxRecDepth 20000 in
theorem gX4_giveUp_X4_let : GoodIn wsX4_giveUp (wsV RX4 65 RX4 yX4_let wsX4_let) := goodIn_app (goodIn_of _ (by decide +kernel)) ggX4_giveUp_X4_let
theorem dX4_giveUp_0 : decode cX4_giveUp 0 = .ok (.aload_n 0, 1) := by decide +kernel
theorem dX4_giveUp_1 : decode cX4_giveUp 1 = .ok (.iconst 0, 1) := by decide +kernel
theorem dX4_giveUp_2 : decode cX4_giveUp 2 = .ok (.putfield 28, 3) := by decide +kernel
theorem dX4_giveUp_5 : decode cX4_giveUp 5 = .ok (.aload_n 0, 1) := by decide +kernel
theorem dX4_giveUp_6 : decode cX4_giveUp 6 = .ok (.iload_n 1, 1) := by decide +kernel
theorem dX4_giveUp_7 : decode cX4_giveUp 7 = .ok (.invokevirtual 101, 3) := by decide +kernel
theorem dX4_giveUp_10 : decode cX4_giveUp 10 = .ok (.ifCond .ne 9, 3) := by decide +kernel
theorem dX4_giveUp_13 : decode cX4_giveUp 13 = .ok (.aload_n 0, 1) := by decide +kernel
theorem dX4_giveUp_14 : decode cX4_giveUp 14 = .ok (.iconst 1, 1) := by decide +kernel
theorem dX4_giveUp_15 : decode cX4_giveUp 15 = .ok (.invokevirtual 72, 3) := by decide +kernel
theorem dX4_giveUp_18 : decode cX4_giveUp 18 = .ok (.ireturn, 1) := by decide +kernel
theorem dX4_giveUp_19 : decode cX4_giveUp 19 = .ok (.aload_n 0, 1) := by decide +kernel
theorem dX4_giveUp_20 : decode cX4_giveUp 20 = .ok (.iload_n 1, 1) := by decide +kernel
theorem dX4_giveUp_21 : decode cX4_giveUp 21 = .ok (.invokevirtual 51, 3) := by decide +kernel
theorem dX4_giveUp_24 : decode cX4_giveUp 24 = .ok (.ifCond .eq 13, 3) := by decide +kernel
theorem dX4_giveUp_27 : decode cX4_giveUp 27 = .ok (.aload_n 0, 1) := by decide +kernel
theorem dX4_giveUp_28 : decode cX4_giveUp 28 = .ok (.iload_n 1, 1) := by decide +kernel
theorem dX4_giveUp_29 : decode cX4_giveUp 29 = .ok (.iconst 3, 1) := by decide +kernel
theorem dX4_giveUp_30 : decode cX4_giveUp 30 = .ok (.invokevirtual 39, 3) := by decide +kernel
theorem dX4_giveUp_33 : decode cX4_giveUp 33 = .ok (.iconst 2, 1) := by decide +kernel
theorem dX4_giveUp_34 : decode cX4_giveUp 34 = .ok (.if_icmp .ge 9, 3) := by decide +kernel
theorem dX4_giveUp_37 : decode cX4_giveUp 37 = .ok (.aload_n 0, 1) := by decide +kernel
theorem dX4_giveUp_38 : decode cX4_giveUp 38 = .ok (.iconst 2, 1) := by decide +kernel
theorem dX4_giveUp_39 : decode cX4_giveUp 39 = .ok (.invokevirtual 72, 3) := by decide +kernel
theorem dX4_giveUp_42 : decode cX4_giveUp 42 = .ok (.ireturn, 1) := by decide +kernel
theorem dX4_giveUp_43 : decode cX4_giveUp 43 = .ok (.aload_n 0, 1) := by decide +kernel
theorem dX4_giveUp_44 : decode cX4_giveUp 44 = .ok (.iload_n 1, 1) := by decide +kernel

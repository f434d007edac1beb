theorem dX1_greatestSum_5 : decode cX1_greatestSum 5 = .ok (.istore 4, 2) := by decide +kernel
theorem dX1_greatestSum_7 : decode cX1_greatestSum 7 = .ok (.iload 4, 2) := by decide +kernel
theorem dX1_greatestSum_9 : decode cX1_greatestSum 9 = .ok (.ifCond .le 40, 3) := by decide +kernel
theorem dX1_greatestSum_12 : decode cX1_greatestSum 12 = .ok (.iload_n 3, 1) := by decide +kernel
theorem dX1_greatestSum_13 : decode cX1_greatestSum 13 = .ok (.iload 4, 2) := by decide +kernel
theorem dX1_greatestSum_15 : decode cX1_greatestSum 15 = .ok (.iadd, 1) := by decide +kernel
theorem dX1_greatestSum_16 : decode cX1_greatestSum 16 = .ok (.istore 5, 2) := by decide +kernel
theorem dX1_greatestSum_18 : decode cX1_greatestSum 18 = .ok (.iload 5, 2) := by decide +kernel
theorem dX1_greatestSum_20 : decode cX1_greatestSum 20 = .ok (.sipush 999, 3) := by decide +kernel
theorem dX1_greatestSum_23 : decode cX1_greatestSum 23 = .ok (.if_icmp .gt 17, 3) := by decide +kernel
theorem dX1_greatestSum_26 : decode cX1_greatestSum 26 = .ok (.aload_n 0, 1) := by decide +kernel
theorem dX1_greatestSum_27 : decode cX1_greatestSum 27 = .ok (.iload 5, 2) := by decide +kernel
theorem dX1_greatestSum_29 : decode cX1_greatestSum 29 = .ok (.iload_n 1, 1) := by decide +kernel
theorem dX1_greatestSum_30 : decode cX1_greatestSum 30 = .ok (.invokevirtual 30, 3) := by decide +kernel
theorem dX1_greatestSum_33 : decode cX1_greatestSum 33 = .ok (.iload_n 2, 1) := by decide +kernel
theorem dX1_greatestSum_34 : decode cX1_greatestSum 34 = .ok (.if_icmp .gt 6, 3) := by decide +kernel
theorem dX1_greatestSum_37 : decode cX1_greatestSum 37 = .ok (.iload 5, 2) := by decide +kernel
theorem dX1_greatestSum_39 : decode cX1_greatestSum 39 = .ok (.istore_n 3, 1) := by decide +kernel
theorem dX1_greatestSum_40 : decode cX1_greatestSum 40 = .ok (.iload 4, 2) := by decide +kernel
theorem dX1_greatestSum_42 : decode cX1_greatestSum 42 = .ok (.iconst 2, 1) := by decide +kernel
theorem dX1_greatestSum_43 : decode cX1_greatestSum 43 = .ok (.idiv, 1) := by decide +kernel
theorem dX1_greatestSum_44 : decode cX1_greatestSum 44 = .ok (.istore 4, 2) := by decide +kernel
theorem dX1_greatestSum_46 : decode cX1_greatestSum 46 = .ok (.goto (-39), 3) := by decide +kernel
theorem dX1_greatestSum_49 : decode cX1_greatestSum 49 = .ok (.iload_n 3, 1) := by decide +kernel
theorem dX1_greatestSum_50 : decode cX1_greatestSum 50 = .ok (.ireturn, 1) := by decide +kernel
set_option maxRecDepth 20000 in
theorem ggX1_leftOfThousand_X1_deathsAt : GoodIn wsX1_leftOfThousand wsX1_deathsAt := goodIn_r _ [5, 6, 7, 8, 9, 10, 11] (by decide +kernel) (by decide +kernel)
set_option maxRecDepth 20000 in
theorem gX1_leftOfThousand_X1_deathsAt : GoodIn wsX1_leftOfThousand (wsV RX1 26 RX1 yX1_deathsAt wsX1_deathsAt) := goodIn_app (goodIn_of _ (by decide +kernel)) ggX1_leftOfThousand_X1_deathsAt
theorem dX1_leftOfThousand_0 : decode cX1_leftOfThousand 0 = .ok (.iload_n 1, 1) := by decide +kernel
theorem dX1_leftOfThousand_1 : decode cX1_leftOfThousand 1 = .ok (.iload_n 2, 1) := by decide +kernel
theorem dX1_leftOfThousand_2 : decode cX1_leftOfThousand 2 = .ok (.iadd, 1) := by decide +kernel
theorem dX1_leftOfThousand_3 : decode cX1_leftOfThousand 3 = .ok (.bipush 99, 2) := by decide +kernel
theorem dX1_leftOfThousand_5 : decode cX1_leftOfThousand 5 = .ok (.if_icmp .le 5, 3) := by decide +kernel
theorem dX1_leftOfThousand_8 : decode cX1_leftOfThousand 8 = .ok (.iconst 0, 1) := by decide +kernel
theorem dX1_leftOfThousand_9 : decode cX1_leftOfThousand 9 = .ok (.ireturn, 1) := by decide +kernel
theorem dX1_leftOfThousand_10 : decode cX1_leftOfThousand 10 = .ok (.sipush 1000, 3) := by decide +kernel
theorem dX1_leftOfThousand_13 : decode cX1_leftOfThousand 13 = .ok (.istore_n 3, 1) := by decide +kernel
theorem dX1_leftOfThousand_14 : decode cX1_leftOfThousand 14 = .ok (.iload_n 1, 1) := by decide +kernel
theorem dX1_leftOfThousand_15 : decode cX1_leftOfThousand 15 = .ok (.istore 4, 2) := by decide +kernel
theorem dX1_leftOfThousand_17 : decode cX1_leftOfThousand 17 = .ok (.iload 4, 2) := by decide +kernel
theorem dX1_leftOfThousand_19 : decode cX1_leftOfThousand 19 = .ok (.iload_n 1, 1) := by decide +kernel
theorem dX1_leftOfThousand_20 : decode cX1_leftOfThousand 20 = .ok (.iload_n 2, 1) := by decide +kernel
theorem dX1_leftOfThousand_21 : decode cX1_leftOfThousand 21 = .ok (.iadd, 1) := by decide +kernel
theorem dX1_leftOfThousand_22 : decode cX1_leftOfThousand 22 = .ok (.if_icmp .ge 26, 3) := by decide +kernel
theorem dX1_leftOfThousand_25 : decode cX1_leftOfThousand 25 = .ok (.iload_n 3, 1) := by decide +kernel
theorem dX1_leftOfThousand_26 : decode cX1_leftOfThousand 26 = .ok (.sipush 1000, 3) := by decide +kernel
theorem dX1_leftOfThousand_29 : decode cX1_leftOfThousand 29 = .ok (.aload_n 0, 1) := by decide +kernel
theorem dX1_leftOfThousand_30 : decode cX1_leftOfThousand 30 = .ok (.iload 4, 2) := by decide +kernel
theorem dX1_leftOfThousand_32 : decode cX1_leftOfThousand 32 = .ok (.invokevirtual 26, 3) := by decide +kernel
theorem dX1_leftOfThousand_35 : decode cX1_leftOfThousand 35 = .ok (.isub, 1) := by decide +kernel
theorem dX1_leftOfThousand_36 : decode cX1_leftOfThousand 36 = .ok (.imul, 1) := by decide +kernel
theorem dX1_leftOfThousand_37 : decode cX1_leftOfThousand 37 = .ok (.sipush 1000, 3) := by decide +kernel
theorem dX1_leftOfThousand_40 : decode cX1_leftOfThousand 40 = .ok (.idiv, 1) := by decide +kernel
theorem dX1_leftOfThousand_41 : decode cX1_leftOfThousand 41 = .ok (.istore_n 3, 1) := by decide +kernel
theorem dX1_leftOfThousand_42 : decode cX1_leftOfThousand 42 = .ok (.iinc 4 1, 3) := by decide +kernel
theorem dX1_leftOfThousand_45 : decode cX1_leftOfThousand 45 = .ok (.goto (-28), 3) := by decide +kernel
theorem dX1_leftOfThousand_48 : decode cX1_leftOfThousand 48 = .ok (.iload_n 3, 1) := by decide +kernel
theorem dX1_leftOfThousand_49 : decode cX1_leftOfThousand 49 = .ok (.ireturn, 1) := by decide +kernel
set_option maxRecDepth 20000 in
theorem ggX1_keptNow_X1_keptWith : GoodIn wsX1_keptNow wsX1_keptWith := goodIn_r _ [6, 7, 8, 9, 10, 11, 12, 13, 14, 15, 16, 17, 18, 5, 19, 20, 21, 22, 23, 24, 25, 26, 27, 30, 31, 32, 33, 34, 35, 36, 28, 29] (by decide +kernel) (by decide +kernel)
set_option maxRecDepth 20000 in
theorem gX1_keptNow_X1_keptWith : GoodIn wsX1_keptNow (wsV RX1 34 RX1 yX1_keptWith wsX1_keptWith) := goodIn_app (goodIn_of _ (by decide +kernel)) ggX1_keptNow_X1_keptWith
theorem dX1_keptNow_0 : decode cX1_keptNow 0 = .ok (.aload_n 0, 1) := by decide +kernel
theorem dX1_keptNow_1 : decode cX1_keptNow 1 = .ok (.aload_n 1, 1) := by decide +kernel
theorem dX1_keptNow_2 : decode cX1_keptNow 2 = .ok (.aload_n 0, 1) := by decide +kernel
theorem dX1_keptNow_3 : decode cX1_keptNow 3 = .ok (.getfield 15, 3) := by decide +kernel
theorem dX1_keptNow_6 : decode cX1_keptNow 6 = .ok (.iconst 0, 1) := by decide +kernel
theorem dX1_keptNow_7 : decode cX1_keptNow 7 = .ok (.iaload, 1) := by decide +kernel
theorem dX1_keptNow_8 : decode cX1_keptNow 8 = .ok (.invokevirtual 34, 3) := by decide +kernel
theorem dX1_keptNow_11 : decode cX1_keptNow 11 = .ok (.ireturn, 1) := by decide +kernel
set_option maxRecDepth 20000 in
theorem ggX1_keptWith_X2_lives : GoodIn wsX1_keptWith wsX2_lives := goodIn_r _ [8, 9, 23, 24, 25, 26, 27, 28, 29] (by decide +kernel) (by decide +kernel)
set_option maxRecDepth 20000 in
theorem gX1_keptWith_X2_lives : GoodIn wsX1_keptWith (wsV RX1 38 RX2 yX2_lives wsX2_lives) := goodIn_app (goodIn_of _ (by decide +kernel)) ggX1_keptWith_X2_lives
set_option maxRecDepth 20000 in
theorem ggX1_keptWith_X1_worthWith : GoodIn wsX1_keptWith wsX1_worthWith := goodIn_r _ [14, 15, 16, 17, 13, 18, 19, 20, 21, 22, 30, 31] (by decide +kernel) (by decide +kernel)
set_option maxRecDepth 20000 in
theorem gX1_keptWith_X1_worthWith : GoodIn wsX1_keptWith (wsV RX1 22 RX1 yX1_worthWith wsX1_worthWith) := goodIn_app (goodIn_of _ (by decide +kernel)) ggX1_keptWith_X1_worthWith
theorem dX1_keptWith_0 : decode cX1_keptWith 0 = .ok (.aload_n 1, 1) := by decide +kernel
theorem dX1_keptWith_1 : decode cX1_keptWith 1 = .ok (.invokevirtual 38, 3) := by decide +kernel
theorem dX1_keptWith_4 : decode cX1_keptWith 4 = .ok (.ifCond .eq 28, 3) := by decide +kernel
theorem dX1_keptWith_7 : decode cX1_keptWith 7 = .ok (.aload_n 1, 1) := by decide +kernel
theorem dX1_keptWith_8 : decode cX1_keptWith 8 = .ok (.getfield 44, 3) := by decide +kernel
theorem dX1_keptWith_11 : decode cX1_keptWith 11 = .ok (.aload_n 0, 1) := by decide +kernel
theorem dX1_keptWith_12 : decode cX1_keptWith 12 = .ok (.aload_n 1, 1) := by decide +kernel
theorem dX1_keptWith_13 : decode cX1_keptWith 13 = .ok (.getfield 48, 3) := by decide +kernel
theorem dX1_keptWith_16 : decode cX1_keptWith 16 = .ok (.aload_n 1, 1) := by decide +kernel
theorem dX1_keptWith_17 : decode cX1_keptWith 17 = .ok (.getfield 51, 3) := by decide +kernel
theorem dX1_keptWith_20 : decode cX1_keptWith 20 = .ok (.iload_n 2, 1) := by decide +kernel
theorem dX1_keptWith_21 : decode cX1_keptWith 21 = .ok (.invokevirtual 22, 3) := by decide +kernel
theorem dX1_keptWith_24 : decode cX1_keptWith 24 = .ok (.imul, 1) := by decide +kernel
theorem dX1_keptWith_25 : decode cX1_keptWith 25 = .ok (.sipush 1000, 3) := by decide +kernel
theorem dX1_keptWith_28 : decode cX1_keptWith 28 = .ok (.idiv, 1) := by decide +kernel
theorem dX1_keptWith_29 : decode cX1_keptWith 29 = .ok (.goto 4, 3) := by decide +kernel
theorem dX1_keptWith_32 : decode cX1_keptWith 32 = .ok (.iconst 0, 1) := by decide +kernel
theorem dX1_keptWith_33 : decode cX1_keptWith 33 = .ok (.ireturn, 1) := by decide +kernel
set_option maxRecDepth 20000 in
theorem ggX1_givenBack_X2_canGiveUp : GoodIn wsX1_givenBack wsX2_canGiveUp := goodIn_r _ [6, 7, 8, 9, 10, 5, 11, 12, 40, 41, 42, 43, 44, 45, 46] (by decide +kernel) (by decide +kernel)
set_option maxRecDepth 20000 in
theorem gX1_givenBack_X2_canGiveUp : GoodIn wsX1_givenBack (wsV RX1 54 RX2 yX2_canGiveUp wsX2_canGiveUp) := goodIn_app (goodIn_of _ (by decide +kernel)) ggX1_givenBack_X2_canGiveUp
set_option maxRecDepth 20000 in
theorem ggX1_givenBack_X1_keptNow : GoodIn wsX1_givenBack wsX1_keptNow := goodIn_r _ [17, 1, 18, 19, 20, 16, 21, 22, 23, 24, 25, 9, 10, 5, 11, 12, 26, 27, 28, 29, 30, 31, 32, 33, 34, 35, 36, 37, 38, 39, 40, 41, 42, 43, 44, 45, 46] (by decide +kernel) (by decide +kernel)
set_option maxRecDepth 20000 in
theorem gX1_givenBack_X1_keptNow : GoodIn wsX1_givenBack (wsV RX1 57 RX1 yX1_keptNow wsX1_keptNow) := goodIn_app (goodIn_of _ (by decide +kernel)) ggX1_givenBack_X1_keptNow
theorem dX1_givenBack_0 : decode cX1_givenBack 0 = .ok (.aload_n 1, 1) := by decide +kernel
theorem dX1_givenBack_1 : decode cX1_givenBack 1 = .ok (.invokevirtual 54, 3) := by decide +kernel
theorem dX1_givenBack_4 : decode cX1_givenBack 4 = .ok (.ifCond .ne 5, 3) := by decide +kernel
theorem dX1_givenBack_7 : decode cX1_givenBack 7 = .ok (.iconst 0, 1) := by decide +kernel
theorem dX1_givenBack_8 : decode cX1_givenBack 8 = .ok (.ireturn, 1) := by decide +kernel
theorem dX1_givenBack_9 : decode cX1_givenBack 9 = .ok (.aload_n 0, 1) := by decide +kernel
theorem dX1_givenBack_10 : decode cX1_givenBack 10 = .ok (.aload_n 1, 1) := by decide +kernel
theorem dX1_givenBack_11 : decode cX1_givenBack 11 = .ok (.invokevirtual 57, 3) := by decide +kernel
theorem dX1_givenBack_14 : decode cX1_givenBack 14 = .ok (.istore_n 2, 1) := by decide +kernel
theorem dX1_givenBack_15 : decode cX1_givenBack 15 = .ok (.iload_n 2, 1) := by decide +kernel
theorem dX1_givenBack_16 : decode cX1_givenBack 16 = .ok (.iload_n 2, 1) := by decide +kernel
theorem dX1_givenBack_17 : decode cX1_givenBack 17 = .ok (.aload_n 0, 1) := by decide +kernel
theorem dX1_givenBack_18 : decode cX1_givenBack 18 = .ok (.getfield 15, 3) := by decide +kernel
theorem dX1_givenBack_21 : decode cX1_givenBack 21 = .ok (.iconst 2, 1) := by decide +kernel
theorem dX1_givenBack_22 : decode cX1_givenBack 22 = .ok (.iaload, 1) := by decide +kernel
theorem dX1_givenBack_23 : decode cX1_givenBack 23 = .ok (.imul, 1) := by decide +kernel
theorem dX1_givenBack_24 : decode cX1_givenBack 24 = .ok (.bipush 100, 2) := by decide +kernel
theorem dX1_givenBack_26 : decode cX1_givenBack 26 = .ok (.idiv, 1) := by decide +kernel
theorem dX1_givenBack_27 : decode cX1_givenBack 27 = .ok (.isub, 1) := by decide +kernel
theorem dX1_givenBack_28 : decode cX1_givenBack 28 = .ok (.ireturn, 1) := by decide +kernel
set_option maxRecDepth 20000 in
theorem ggX1_tellOf_X1_keptNow : GoodIn wsX1_tellOf wsX1_keptNow := goodIn_r _ [12, 13, 14, 15, 16, 11, 17, 2, 1, 3, 18, 19, 20, 21, 22, 23, 24, 25, 26, 27, 28, 29, 30, 31, 32, 33, 34, 35, 53, 54, 46, 47, 48, 49, 50, 51, 52] (by decide +kernel) (by decide +kernel)
set_option maxRecDepth 20000 in
theorem gX1_tellOf_X1_keptNow : GoodIn wsX1_tellOf (wsV RX1 57 RX1 yX1_keptNow wsX1_keptNow) := goodIn_app (goodIn_of _ (by decide +kernel)) ggX1_tellOf_X1_keptNow
set_option maxRecDepth 20000 in
theorem ggX1_tellOf_X1_givenBack : GoodIn wsX1_tellOf wsX1_givenBack := goodIn_r _ [39, 13, 40, 41, 42, 21, 43, 44, 45, 19, 20, 22, 23, 8, 9, 10, 11, 12, 14, 15, 16, 17, 2, 1, 3, 18, 24, 25, 26, 27, 28, 29, 30, 31, 32, 33, 34, 35, 53, 54, 46, 47, 48, 49, 50, 51, 52] (by decide +kernel) (by decide +kernel)
set_option maxRecDepth 20000 in
theorem gX1_tellOf_X1_givenBack : GoodIn wsX1_tellOf (wsV RX1 73 RX1 yX1_givenBack wsX1_givenBack) := goodIn_app (goodIn_of _ (by decide +kernel)) ggX1_tellOf_X1_givenBack
theorem dX1_tellOf_0 : decode cX1_tellOf 0 = .ok (.iload_n 2, 1) := by decide +kernel
theorem dX1_tellOf_1 : decode cX1_tellOf 1 = .ok (.tableswitch 88 0 7 #[47, 52, 57, 62, 67, 72, 78, 83], 47) := by decide +kernel
theorem dX1_tellOf_48 : decode cX1_tellOf 48 = .ok (.aload_n 1, 1) := by decide +kernel
theorem dX1_tellOf_49 : decode cX1_tellOf 49 = .ok (.getfield 48, 3) := by decide +kernel
theorem dX1_tellOf_52 : decode cX1_tellOf 52 = .ok (.ireturn, 1) := by decide +kernel
theorem dX1_tellOf_53 : decode cX1_tellOf 53 = .ok (.aload_n 1, 1) := by decide +kernel
theorem dX1_tellOf_54 : decode cX1_tellOf 54 = .ok (.getfield 44, 3) := by decide +kernel
theorem dX1_tellOf_57 : decode cX1_tellOf 57 = .ok (.ireturn, 1) := by decide +kernel
theorem dX1_tellOf_58 : decode cX1_tellOf 58 = .ok (.aload_n 1, 1) := by decide +kernel
theorem dX1_tellOf_59 : decode cX1_tellOf 59 = .ok (.getfield 51, 3) := by decide +kernel
theorem dX1_tellOf_62 : decode cX1_tellOf 62 = .ok (.ireturn, 1) := by decide +kernel
theorem dX1_tellOf_63 : decode cX1_tellOf 63 = .ok (.aload_n 1, 1) := by decide +kernel
theorem dX1_tellOf_64 : decode cX1_tellOf 64 = .ok (.getfield 61, 3) := by decide +kernel
theorem dX1_tellOf_67 : decode cX1_tellOf 67 = .ok (.ireturn, 1) := by decide +kernel
theorem dX1_tellOf_68 : decode cX1_tellOf 68 = .ok (.aload_n 1, 1) := by decide +kernel
theorem dX1_tellOf_69 : decode cX1_tellOf 69 = .ok (.getfield 64, 3) := by decide +kernel
theorem dX1_tellOf_72 : decode cX1_tellOf 72 = .ok (.ireturn, 1) := by decide +kernel
theorem dX1_tellOf_73 : decode cX1_tellOf 73 = .ok (.aload_n 0, 1) := by decide +kernel
theorem dX1_tellOf_74 : decode cX1_tellOf 74 = .ok (.aload_n 1, 1) := by decide +kernel
theorem dX1_tellOf_75 : decode cX1_tellOf 75 = .ok (.invokevirtual 57, 3) := by decide +kernel
theorem dX1_tellOf_78 : decode cX1_tellOf 78 = .ok (.ireturn, 1) := by decide +kernel
theorem dX1_tellOf_79 : decode cX1_tellOf 79 = .ok (.aload_n 1, 1) := by decide +kernel
theorem dX1_tellOf_80 : decode cX1_tellOf 80 = .ok (.getfield 67, 3) := by decide +kernel
theorem dX1_tellOf_83 : decode cX1_tellOf 83 = .ok (.ireturn, 1) := by decide +kernel
theorem dX1_tellOf_84 : decode cX1_tellOf 84 = .ok (.aload_n 1, 1) := by decide +kernel
theorem dX1_tellOf_85 : decode cX1_tellOf 85 = .ok (.getfield 70, 3) := by decide +kernel
theorem dX1_tellOf_88 : decode cX1_tellOf 88 = .ok (.ireturn, 1) := by decide +kernel
theorem dX1_tellOf_89 : decode cX1_tellOf 89 = .ok (.aload_n 0, 1) := by decide +kernel
theorem dX1_tellOf_90 : decode cX1_tellOf 90 = .ok (.aload_n 1, 1) := by decide +kernel
theorem dX1_tellOf_91 : decode cX1_tellOf 91 = .ok (.invokevirtual 73, 3) := by decide +kernel
theorem dX1_tellOf_94 : decode cX1_tellOf 94 = .ok (.ireturn, 1) := by decide +kernel
theorem dX2_init_0 : decode cX2_init 0 = .ok (.aload_n 0, 1) := by decide +kernel
theorem dX2_init_1 : decode cX2_init 1 = .ok (.invokespecial 3, 3) := by decide +kernel
theorem dX2_init_4 : decode cX2_init 4 = .ok (.return_, 1) := by decide +kernel
theorem dX2_lives_0 : decode cX2_lives 0 = .ok (.aload_n 0, 1) := by decide +kernel
theorem dX2_lives_1 : decode cX2_lives 1 = .ok (.getfield 9, 3) := by decide +kernel
theorem dX2_lives_4 : decode cX2_lives 4 = .ok (.ifCond .ne 7, 3) := by decide +kernel
theorem dX2_lives_7 : decode cX2_lives 7 = .ok (.iconst 1, 1) := by decide +kernel
theorem dX2_lives_8 : decode cX2_lives 8 = .ok (.goto 4, 3) := by decide +kernel
theorem dX2_lives_11 : decode cX2_lives 11 = .ok (.iconst 0, 1) := by decide +kernel
theorem dX2_lives_12 : decode cX2_lives 12 = .ok (.ireturn, 1) := by decide +kernel
set_option maxRecDepth 20000 in
theorem ggX2_canGiveUp_X2_lives : GoodIn wsX2_canGiveUp wsX2_lives := goodIn_r _ [6, 7, 8, 9, 10, 11, 12, 13, 14] (by decide +kernel) (by decide +kernel)
set_option maxRecDepth 20000 in
theorem gX2_canGiveUp_X2_lives : GoodIn wsX2_canGiveUp (wsV RX2 15 RX2 yX2_lives wsX2_lives) := goodIn_app (goodIn_of _ (by decide +kernel)) ggX2_canGiveUp_X2_lives
theorem dX2_canGiveUp_0 : decode cX2_canGiveUp 0 = .ok (.aload_n 0, 1) := by decide +kernel
theorem dX2_canGiveUp_1 : decode cX2_canGiveUp 1 = .ok (.invokevirtual 15, 3) := by decide +kernel
theorem dX2_canGiveUp_4 : decode cX2_canGiveUp 4 = .ok (.ifCond .eq 15, 3) := by decide +kernel
theorem dX2_canGiveUp_7 : decode cX2_canGiveUp 7 = .ok (.aload_n 0, 1) := by decide +kernel
theorem dX2_canGiveUp_8 : decode cX2_canGiveUp 8 = .ok (.getfield 19, 3) := by decide +kernel
theorem dX2_canGiveUp_11 : decode cX2_canGiveUp 11 = .ok (.iconst 2, 1) := by decide +kernel
theorem dX2_canGiveUp_12 : decode cX2_canGiveUp 12 = .ok (.if_icmp .lt 7, 3) := by decide +kernel
theorem dX2_canGiveUp_15 : decode cX2_canGiveUp 15 = .ok (.iconst 1, 1) := by decide +kernel
theorem dX2_canGiveUp_16 : decode cX2_canGiveUp 16 = .ok (.goto 4, 3) := by decide +kernel
theorem dX2_canGiveUp_19 : decode cX2_canGiveUp 19 = .ok (.iconst 0, 1) := by decide +kernel
theorem dX2_canGiveUp_20 : decode cX2_canGiveUp 20 = .ok (.ireturn, 1) := by decide +kernel
theorem dX2_start_0 : decode cX2_start 0 = .ok (.aload_n 0, 1) := by decide +kernel
theorem dX2_start_1 : decode cX2_start 1 = .ok (.iload_n 1, 1) := by decide +kernel
theorem dX2_start_2 : decode cX2_start 2 = .ok (.putfield 22, 3) := by decide +kernel
theorem dX2_start_5 : decode cX2_start 5 = .ok (.aload_n 0, 1) := by decide +kernel
theorem dX2_start_6 : decode cX2_start 6 = .ok (.iload_n 2, 1) := by decide +kernel
theorem dX2_start_7 : decode cX2_start 7 = .ok (.putfield 25, 3) := by decide +kernel
theorem dX2_start_10 : decode cX2_start 10 = .ok (.aload_n 0, 1) := by decide +kernel
theorem dX2_start_11 : decode cX2_start 11 = .ok (.iload_n 3, 1) := by decide +kernel
theorem dX2_start_12 : decode cX2_start 12 = .ok (.putfield 28, 3) := by decide +kernel
theorem dX2_start_15 : decode cX2_start 15 = .ok (.aload_n 0, 1) := by decide +kernel
theorem dX2_start_16 : decode cX2_start 16 = .ok (.iconst 0, 1) := by decide +kernel
theorem dX2_start_17 : decode cX2_start 17 = .ok (.putfield 19, 3) := by decide +kernel
theorem dX2_start_20 : decode cX2_start 20 = .ok (.aload_n 0, 1) := by decide +kernel
theorem dX2_start_21 : decode cX2_start 21 = .ok (.iconst 0, 1) := by decide +kernel
theorem dX2_start_22 : decode cX2_start 22 = .ok (.putfield 9, 3) := by decide +kernel
theorem dX2_start_25 : decode cX2_start 25 = .ok (.aload_n 0, 1) := by decide +kernel
theorem dX2_start_26 : decode cX2_start 26 = .ok (.iconst 0, 1) := by decide +kernel
theorem dX2_start_27 : decode cX2_start 27 = .ok (.putfield 31, 3) := by decide +kernel
theorem dX2_start_30 : decode cX2_start 30 = .ok (.aload_n 0, 1) := by decide +kernel
theorem dX2_start_31 : decode cX2_start 31 = .ok (.iload 4, 2) := by decide +kernel
theorem dX2_start_33 : decode cX2_start 33 = .ok (.putfield 34, 3) := by decide +kernel
theorem dX2_start_36 : decode cX2_start 36 = .ok (.return_, 1) := by decide +kernel
theorem dX2_copy_0 : decode cX2_copy 0 = .ok (.aload_n 0, 1) := by decide +kernel
theorem dX2_copy_1 : decode cX2_copy 1 = .ok (.aload_n 1, 1) := by decide +kernel
theorem dX2_copy_2 : decode cX2_copy 2 = .ok (.getfield 22, 3) := by decide +kernel
theorem dX2_copy_5 : decode cX2_copy 5 = .ok (.putfield 22, 3) := by decide +kernel
theorem dX2_copy_8 : decode cX2_copy 8 = .ok (.aload_n 0, 1) := by decide +kernel
theorem dX2_copy_9 : decode cX2_copy 9 = .ok (.aload_n 1, 1) := by decide +kernel
theorem dX2_copy_10 : decode cX2_copy 10 = .ok (.getfield 25, 3) := by decide +kernel
theorem dX2_copy_13 : decode cX2_copy 13 = .ok (.putfield 25, 3) := by decide +kernel
theorem dX2_copy_16 : decode cX2_copy 16 = .ok (.aload_n 0, 1) := by decide +kernel
theorem dX2_copy_17 : decode cX2_copy 17 = .ok (.aload_n 1, 1) := by decide +kernel
theorem dX2_copy_18 : decode cX2_copy 18 = .ok (.getfield 28, 3) := by decide +kernel
theorem dX2_copy_21 : decode cX2_copy 21 = .ok (.putfield 28, 3) := by decide +kernel
theorem dX2_copy_24 : decode cX2_copy 24 = .ok (.aload_n 0, 1) := by decide +kernel
theorem dX2_copy_25 : decode cX2_copy 25 = .ok (.aload_n 1, 1) := by decide +kernel
theorem dX2_copy_26 : decode cX2_copy 26 = .ok (.getfield 19, 3) := by decide +kernel
theorem dX2_copy_29 : decode cX2_copy 29 = .ok (.putfield 19, 3) := by decide +kernel
theorem dX2_copy_32 : decode cX2_copy 32 = .ok (.aload_n 0, 1) := by decide +kernel
theorem dX2_copy_33 : decode cX2_copy 33 = .ok (.aload_n 1, 1) := by decide +kernel
theorem dX2_copy_34 : decode cX2_copy 34 = .ok (.getfield 9, 3) := by decide +kernel
theorem dX2_copy_37 : decode cX2_copy 37 = .ok (.putfield 9, 3) := by decide +kernel
theorem dX2_copy_40 : decode cX2_copy 40 = .ok (.aload_n 0, 1) := by decide +kernel
theorem dX2_copy_41 : decode cX2_copy 41 = .ok (.aload_n 1, 1) := by decide +kernel
theorem dX2_copy_42 : decode cX2_copy 42 = .ok (.getfield 31, 3) := by decide +kernel
theorem dX2_copy_45 : decode cX2_copy 45 = .ok (.putfield 31, 3) := by decide +kernel
theorem dX2_copy_48 : decode cX2_copy 48 = .ok (.aload_n 0, 1) := by decide +kernel
theorem dX2_copy_49 : decode cX2_copy 49 = .ok (.aload_n 1, 1) := by decide +kernel
theorem dX2_copy_50 : decode cX2_copy 50 = .ok (.getfield 34, 3) := by decide +kernel
theorem dX2_copy_53 : decode cX2_copy 53 = .ok (.putfield 34, 3) := by decide +kernel
theorem dX2_copy_56 : decode cX2_copy 56 = .ok (.return_, 1) := by decide +kernel
theorem dX2_liveYear_0 : decode cX2_liveYear 0 = .ok (.aload_n 0, 1) := by decide +kernel
theorem dX2_liveYear_1 : decode cX2_liveYear 1 = .ok (.getfield 28, 3) := by decide +kernel
theorem dX2_liveYear_4 : decode cX2_liveYear 4 = .ok (.ifCond .ne 10, 3) := by decide +kernel
theorem dX2_liveYear_7 : decode cX2_liveYear 7 = .ok (.aload_n 0, 1) := by decide +kernel
theorem dX2_liveYear_8 : decode cX2_liveYear 8 = .ok (.getfield 25, 3) := by decide +kernel
theorem dX2_liveYear_11 : decode cX2_liveYear 11 = .ok (.goto 4, 3) := by decide +kernel
theorem dX2_liveYear_14 : decode cX2_liveYear 14 = .ok (.iconst 0, 1) := by decide +kernel
theorem dX2_liveYear_15 : decode cX2_liveYear 15 = .ok (.istore_n 1, 1) := by decide +kernel
theorem dX2_liveYear_16 : decode cX2_liveYear 16 = .ok (.aload_n 0, 1) := by decide +kernel
theorem dX2_liveYear_17 : decode cX2_liveYear 17 = .ok (.getfield 28, 3) := by decide +kernel
theorem dX2_liveYear_20 : decode cX2_liveYear 20 = .ok (.ifCond .le 13, 3) := by decide +kernel
theorem dX2_liveYear_23 : decode cX2_liveYear 23 = .ok (.aload_n 0, 1) := by decide +kernel
theorem dX2_liveYear_24 : decode cX2_liveYear 24 = .ok (.dup, 1) := by decide +kernel
theorem dX2_liveYear_25 : decode cX2_liveYear 25 = .ok (.getfield 28, 3) := by decide +kernel
theorem dX2_liveYear_28 : decode cX2_liveYear 28 = .ok (.iconst 1, 1) := by decide +kernel
theorem dX2_liveYear_29 : decode cX2_liveYear 29 = .ok (.isub, 1) := by decide +kernel
theorem dX2_liveYear_30 : decode cX2_liveYear 30 = .ok (.putfield 28, 3) := by decide +kernel
theorem dX2_liveYear_33 : decode cX2_liveYear 33 = .ok (.aload_n 0, 1) := by decide +kernel
theorem dX2_liveYear_34 : decode cX2_liveYear 34 = .ok (.dup, 1) := by decide +kernel
theorem dX2_liveYear_35 : decode cX2_liveYear 35 = .ok (.getfield 31, 3) := by decide +kernel
theorem dX2_liveYear_38 : decode cX2_liveYear 38 = .ok (.iload_n 1, 1) := by decide +kernel
theorem dX2_liveYear_39 : decode cX2_liveYear 39 = .ok (.iadd, 1) := by decide +kernel
theorem dX2_liveYear_40 : decode cX2_liveYear 40 = .ok (.putfield 31, 3) := by decide +kernel
theorem dX2_liveYear_43 : decode cX2_liveYear 43 = .ok (.aload_n 0, 1) := by decide +kernel
theorem dX2_liveYear_44 : decode cX2_liveYear 44 = .ok (.dup, 1) := by decide +kernel
theorem dX2_liveYear_45 : decode cX2_liveYear 45 = .ok (.getfield 22, 3) := by decide +kernel
theorem dX2_liveYear_48 : decode cX2_liveYear 48 = .ok (.iconst 1, 1) := by decide +kernel
theorem dX2_liveYear_49 : decode cX2_liveYear 49 = .ok (.iadd, 1) := by decide +kernel
theorem dX2_liveYear_50 : decode cX2_liveYear 50 = .ok (.putfield 22, 3) := by decide +kernel
theorem dX2_liveYear_53 : decode cX2_liveYear 53 = .ok (.aload_n 0, 1) := by decide +kernel
theorem dX2_liveYear_54 : decode cX2_liveYear 54 = .ok (.dup, 1) := by decide +kernel
theorem dX2_liveYear_55 : decode cX2_liveYear 55 = .ok (.getfield 19, 3) := by decide +kernel
theorem dX2_liveYear_58 : decode cX2_liveYear 58 = .ok (.iconst 1, 1) := by decide +kernel
theorem dX2_liveYear_59 : decode cX2_liveYear 59 = .ok (.iadd, 1) := by decide +kernel
theorem dX2_liveYear_60 : decode cX2_liveYear 60 = .ok (.putfield 19, 3) := by decide +kernel
theorem dX2_liveYear_63 : decode cX2_liveYear 63 = .ok (.aload_n 0, 1) := by decide +kernel
theorem dX2_liveYear_64 : decode cX2_liveYear 64 = .ok (.getfield 22, 3) := by decide +kernel
theorem dX2_liveYear_67 : decode cX2_liveYear 67 = .ok (.bipush 99, 2) := by decide +kernel
theorem dX2_liveYear_69 : decode cX2_liveYear 69 = .ok (.if_icmp .le 8, 3) := by decide +kernel
theorem dX2_liveYear_72 : decode cX2_liveYear 72 = .ok (.aload_n 0, 1) := by decide +kernel
theorem dX2_liveYear_73 : decode cX2_liveYear 73 = .ok (.iconst 1, 1) := by decide +kernel
theorem dX2_liveYear_74 : decode cX2_liveYear 74 = .ok (.putfield 9, 3) := by decide +kernel
theorem dX2_liveYear_77 : decode cX2_liveYear 77 = .ok (.iload_n 1, 1) := by decide +kernel
theorem dX2_liveYear_78 : decode cX2_liveYear 78 = .ok (.ireturn, 1) := by decide +kernel
set_option maxRecDepth 20000 in
theorem ggX3_init_X1_init : GoodIn wsX3_init wsX1_init := goodIn_r _ [15, 16, 2, 3, 17, 18, 19, 32, 33] (by decide +kernel) (by decide +kernel)
set_option maxRecDepth 20000 in
theorem gX3_init_X1_init : GoodIn wsX3_init (wsX1_init) := ggX3_init_X1_init
set_option maxRecDepth 20000 in
theorem ggX3_init_X0_init : GoodIn wsX3_init wsX0_init := goodIn_r _ [22, 23, 2, 3, 24, 25, 26, 27, 28, 29, 30, 31, 37, 38, 39, 40, 41, 42, 43, 44, 45, 46, 47, 48, 49, 50] (by decide +kernel) (by decide +kernel)
set_option maxRecDepth 20000 in
theorem gX3_init_X0_init : GoodIn wsX3_init (wsX0_init) := ggX3_init_X0_init
theorem dX3_init_0 : decode cX3_init 0 = .ok (.aload_n 0, 1) := by decide +kernel
theorem dX3_init_1 : decode cX3_init 1 = .ok (.invokespecial 3, 3) := by decide +kernel
theorem dX3_init_4 : decode cX3_init 4 = .ok (.aload_n 0, 1) := by decide +kernel
theorem dX3_init_5 : decode cX3_init 5 = .ok (.new 9, 3) := by decide +kernel
theorem dX3_init_8 : decode cX3_init 8 = .ok (.dup, 1) := by decide +kernel
theorem dX3_init_9 : decode cX3_init 9 = .ok (.invokespecial 11, 3) := by decide +kernel
theorem dX3_init_12 : decode cX3_init 12 = .ok (.putfield 12, 3) := by decide +kernel
theorem dX3_init_15 : decode cX3_init 15 = .ok (.aload_n 0, 1) := by decide +kernel
theorem dX3_init_16 : decode cX3_init 16 = .ok (.new 16, 3) := by decide +kernel
theorem dX3_init_19 : decode cX3_init 19 = .ok (.dup, 1) := by decide +kernel
theorem dX3_init_20 : decode cX3_init 20 = .ok (.aload_n 0, 1) := by decide +kernel
theorem dX3_init_21 : decode cX3_init 21 = .ok (.getfield 12, 3) := by decide +kernel
theorem dX3_init_24 : decode cX3_init 24 = .ok (.invokespecial 18, 3) := by decide +kernel
theorem dX3_init_27 : decode cX3_init 27 = .ok (.putfield 21, 3) := by decide +kernel
theorem dX3_init_30 : decode cX3_init 30 = .ok (.aload_n 0, 1) := by decide +kernel
theorem dX3_init_31 : decode cX3_init 31 = .ok (.new 16, 3) := by decide +kernel
theorem dX3_init_34 : decode cX3_init 34 = .ok (.dup, 1) := by decide +kernel
theorem dX3_init_35 : decode cX3_init 35 = .ok (.aload_n 0, 1) := by decide +kernel
theorem dX3_init_36 : decode cX3_init 36 = .ok (.getfield 12, 3) := by decide +kernel
theorem dX3_init_39 : decode cX3_init 39 = .ok (.invokespecial 18, 3) := by decide +kernel
theorem dX3_init_42 : decode cX3_init 42 = .ok (.putfield 25, 3) := by decide +kernel
theorem dX3_init_45 : decode cX3_init 45 = .ok (.return_, 1) := by decide +kernel
set_option maxRecDepth 20000 in
theorem ggX3_setDeaths_X3_isAge : GoodIn wsX3_setDeaths wsX3_isAge := goodIn_r _ [9] (by decide +kernel) (by decide +kernel)
set_option maxRecDepth 20000 in
theorem gX3_setDeaths_X3_isAge : GoodIn wsX3_setDeaths (va_wsS RX3 28 yX3_isAge wsX3_isAge) := goodIn_app (goodIn_of _ (by decide +kernel)) ggX3_setDeaths_X3_isAge
set_option maxRecDepth 20000 in
theorem ggX3_setDeaths_X1_deathsAt : GoodIn wsX3_setDeaths wsX1_deathsAt := goodIn_r _ [14, 15, 7, 8, 9, 23, 24] (by decide +kernel) (by decide +kernel)
set_option maxRecDepth 20000 in
theorem gX3_setDeaths_X1_deathsAt : GoodIn wsX3_setDeaths (wsV RX3 44 RX1 yX1_deathsAt wsX1_deathsAt) := goodIn_app (goodIn_of _ (by decide +kernel)) ggX3_setDeaths_X1_deathsAt
set_option maxRecDepth 20000 in
theorem ggX3_setDeaths_X1_changeDeaths : GoodIn wsX3_setDeaths wsX1_changeDeaths := goodIn_r _ [19, 15, 7, 8, 9, 23, 24] (by decide +kernel) (by decide +kernel)
set_option maxRecDepth 20000 in
theorem gX3_setDeaths_X1_changeDeaths : GoodIn wsX3_setDeaths (wsV RX3 48 RX1 yX1_changeDeaths wsX1_changeDeaths) := goodIn_app (goodIn_of _ (by decide +kernel)) ggX3_setDeaths_X1_changeDeaths
theorem dX3_setDeaths_0 : decode cX3_setDeaths 0 = .ok (.iload_n 1, 1) := by decide +kernel
theorem dX3_setDeaths_1 : decode cX3_setDeaths 1 = .ok (.invokestatic 28, 3) := by decide +kernel
theorem dX3_setDeaths_4 : decode cX3_setDeaths 4 = .ok (.ifCond .ne 13, 3) := by decide +kernel
theorem dX3_setDeaths_7 : decode cX3_setDeaths 7 = .ok (.new 32, 3) := by decide +kernel
theorem dX3_setDeaths_10 : decode cX3_setDeaths 10 = .ok (.dup, 1) := by decide +kernel
theorem dX3_setDeaths_11 : decode cX3_setDeaths 11 = .ok (.ldc 34, 2) := by decide +kernel
theorem dX3_setDeaths_13 : decode cX3_setDeaths 13 = .ok (.invokespecial 36, 3) := by decide +kernel
theorem dX3_setDeaths_16 : decode cX3_setDeaths 16 = .ok (.athrow, 1) := by decide +kernel
theorem dX3_setDeaths_17 : decode cX3_setDeaths 17 = .ok (.iload_n 2, 1) := by decide +kernel
theorem dX3_setDeaths_18 : decode cX3_setDeaths 18 = .ok (.ifCond .lt 10, 3) := by decide +kernel
theorem dX3_setDeaths_21 : decode cX3_setDeaths 21 = .ok (.iload_n 2, 1) := by decide +kernel
theorem dX3_setDeaths_22 : decode cX3_setDeaths 22 = .ok (.sipush 1000, 3) := by decide +kernel
theorem dX3_setDeaths_25 : decode cX3_setDeaths 25 = .ok (.if_icmp .le 13, 3) := by decide +kernel
theorem dX3_setDeaths_28 : decode cX3_setDeaths 28 = .ok (.new 39, 3) := by decide +kernel
theorem dX3_setDeaths_31 : decode cX3_setDeaths 31 = .ok (.dup, 1) := by decide +kernel
theorem dX3_setDeaths_32 : decode cX3_setDeaths 32 = .ok (.ldc 41, 2) := by decide +kernel
theorem dX3_setDeaths_34 : decode cX3_setDeaths 34 = .ok (.invokespecial 43, 3) := by decide +kernel
theorem dX3_setDeaths_37 : decode cX3_setDeaths 37 = .ok (.athrow, 1) := by decide +kernel
theorem dX3_setDeaths_38 : decode cX3_setDeaths 38 = .ok (.aload_n 0, 1) := by decide +kernel
theorem dX3_setDeaths_39 : decode cX3_setDeaths 39 = .ok (.getfield 12, 3) := by decide +kernel
theorem dX3_setDeaths_42 : decode cX3_setDeaths 42 = .ok (.iload_n 1, 1) := by decide +kernel
theorem dX3_setDeaths_43 : decode cX3_setDeaths 43 = .ok (.invokevirtual 44, 3) := by decide +kernel
theorem dX3_setDeaths_46 : decode cX3_setDeaths 46 = .ok (.istore_n 3, 1) := by decide +kernel
theorem dX3_setDeaths_47 : decode cX3_setDeaths 47 = .ok (.aload_n 0, 1) := by decide +kernel
theorem dX3_setDeaths_48 : decode cX3_setDeaths 48 = .ok (.getfield 12, 3) := by decide +kernel
theorem dX3_setDeaths_51 : decode cX3_setDeaths 51 = .ok (.iload_n 1, 1) := by decide +kernel
theorem dX3_setDeaths_52 : decode cX3_setDeaths 52 = .ok (.iload_n 2, 1) := by decide +kernel
theorem dX3_setDeaths_53 : decode cX3_setDeaths 53 = .ok (.invokevirtual 48, 3) := by decide +kernel
theorem dX3_setDeaths_56 : decode cX3_setDeaths 56 = .ok (.iload_n 3, 1) := by decide +kernel
theorem dX3_setDeaths_57 : decode cX3_setDeaths 57 = .ok (.ireturn, 1) := by decide +kernel
set_option maxRecDepth 20000 in
theorem ggX3_setRate_X1_rate : GoodIn wsX3_setRate wsX1_rate := goodIn_r _ [10, 11, 19, 20] (by decide +kernel) (by decide +kernel)
set_option maxRecDepth 20000 in
theorem gX3_setRate_X1_rate : GoodIn wsX3_setRate (wsV RX3 56 RX1 yX1_rate wsX1_rate) := goodIn_app (goodIn_of _ (by decide +kernel)) ggX3_setRate_X1_rate
set_option maxRecDepth 20000 in
theorem ggX3_setRate_X1_changeRate : GoodIn wsX3_setRate wsX1_changeRate := goodIn_r _ [15, 11, 19, 20] (by decide +kernel) (by decide +kernel)
set_option maxRecDepth 20000 in
theorem gX3_setRate_X1_changeRate : GoodIn wsX3_setRate (wsV RX3 59 RX1 yX1_changeRate wsX1_changeRate) := goodIn_app (goodIn_of _ (by decide +kernel)) ggX3_setRate_X1_changeRate
theorem dX3_setRate_0 : decode cX3_setRate 0 = .ok (.iload_n 1, 1) := by decide +kernel
theorem dX3_setRate_1 : decode cX3_setRate 1 = .ok (.ifCond .lt 8, 3) := by decide +kernel
theorem dX3_setRate_4 : decode cX3_setRate 4 = .ok (.iload_n 1, 1) := by decide +kernel
theorem dX3_setRate_5 : decode cX3_setRate 5 = .ok (.iconst 3, 1) := by decide +kernel
theorem dX3_setRate_6 : decode cX3_setRate 6 = .ok (.if_icmp .lt 13, 3) := by decide +kernel
theorem dX3_setRate_9 : decode cX3_setRate 9 = .ok (.new 32, 3) := by decide +kernel
theorem dX3_setRate_12 : decode cX3_setRate 12 = .ok (.dup, 1) := by decide +kernel
theorem dX3_setRate_13 : decode cX3_setRate 13 = .ok (.ldc 52, 2) := by decide +kernel
theorem dX3_setRate_15 : decode cX3_setRate 15 = .ok (.invokespecial 36, 3) := by decide +kernel
theorem dX3_setRate_18 : decode cX3_setRate 18 = .ok (.athrow, 1) := by decide +kernel
theorem dX3_setRate_19 : decode cX3_setRate 19 = .ok (.iload_n 2, 1) := by decide +kernel
theorem dX3_setRate_20 : decode cX3_setRate 20 = .ok (.ifCond .lt 19, 3) := by decide +kernel
theorem dX3_setRate_23 : decode cX3_setRate 23 = .ok (.iload_n 2, 1) := by decide +kernel
theorem dX3_setRate_24 : decode cX3_setRate 24 = .ok (.iload_n 1, 1) := by decide +kernel
theorem dX3_setRate_25 : decode cX3_setRate 25 = .ok (.ifCond .ne 9, 3) := by decide +kernel
theorem dX3_setRate_28 : decode cX3_setRate 28 = .ok (.sipush 200, 3) := by decide +kernel
theorem dX3_setRate_31 : decode cX3_setRate 31 = .ok (.goto 5, 3) := by decide +kernel
theorem dX3_setRate_34 : decode cX3_setRate 34 = .ok (.bipush 50, 2) := by decide +kernel
theorem dX3_setRate_36 : decode cX3_setRate 36 = .ok (.if_icmp .le 13, 3) := by decide +kernel
theorem dX3_setRate_39 : decode cX3_setRate 39 = .ok (.new 39, 3) := by decide +kernel
theorem dX3_setRate_42 : decode cX3_setRate 42 = .ok (.dup, 1) := by decide +kernel
theorem dX3_setRate_43 : decode cX3_setRate 43 = .ok (.ldc 54, 2) := by decide +kernel
theorem dX3_setRate_45 : decode cX3_setRate 45 = .ok (.invokespecial 43, 3) := by decide +kernel
theorem dX3_setRate_48 : decode cX3_setRate 48 = .ok (.athrow, 1) := by decide +kernel
theorem dX3_setRate_49 : decode cX3_setRate 49 = .ok (.aload_n 0, 1) := by decide +kernel
theorem dX3_setRate_50 : decode cX3_setRate 50 = .ok (.getfield 12, 3) := by decide +kernel
theorem dX3_setRate_53 : decode cX3_setRate 53 = .ok (.iload_n 1, 1) := by decide +kernel
theorem dX3_setRate_54 : decode cX3_setRate 54 = .ok (.invokevirtual 56, 3) := by decide +kernel
theorem dX3_setRate_57 : decode cX3_setRate 57 = .ok (.istore_n 3, 1) := by decide +kernel
theorem dX3_setRate_58 : decode cX3_setRate 58 = .ok (.aload_n 0, 1) := by decide +kernel
theorem dX3_setRate_59 : decode cX3_setRate 59 = .ok (.getfield 12, 3) := by decide +kernel
theorem dX3_setRate_62 : decode cX3_setRate 62 = .ok (.iload_n 1, 1) := by decide +kernel
theorem dX3_setRate_63 : decode cX3_setRate 63 = .ok (.iload_n 2, 1) := by decide +kernel
theorem dX3_setRate_64 : decode cX3_setRate 64 = .ok (.invokevirtual 59, 3) := by decide +kernel
theorem dX3_setRate_67 : decode cX3_setRate 67 = .ok (.iload_n 3, 1) := by decide +kernel
theorem dX3_setRate_68 : decode cX3_setRate 68 = .ok (.ireturn, 1) := by decide +kernel
set_option maxRecDepth 20000 in
theorem ggX3_buy_X3_checkAge : GoodIn wsX3_buy wsX3_checkAge := goodIn_ca (goodIn_r _ [8, 9, 10, 11, 12, 7, 13] (by decide +kernel) (by decide +kernel)) (goodIn_sub (fun _ h => List.mem_cons_of_mem _ (List.mem_append_right _ h)) (by decide +kernel))
set_option maxRecDepth 20000 in
theorem gX3_buy_X3_checkAge : GoodIn wsX3_buy (va_wsS RX3 62 yX3_checkAge wsX3_checkAge) := goodIn_app (goodIn_of _ (by decide +kernel)) ggX3_buy_X3_checkAge
set_option maxRecDepth 20000 in
theorem ggX3_buy_X3_checkSum : GoodIn wsX3_buy wsX3_checkSum := goodIn_ca (goodIn_r _ [16, 9, 10] (by decide +kernel) (by decide +kernel)) (goodIn_sub (fun _ h => List.mem_cons_of_mem _ (List.mem_append_right _ h)) (by decide +kernel))
set_option maxRecDepth 20000 in
theorem gX3_buy_X3_checkSum : GoodIn wsX3_buy (va_wsS RX3 66 yX3_checkSum wsX3_checkSum) := goodIn_app (goodIn_of _ (by decide +kernel)) ggX3_buy_X3_checkSum
set_option maxRecDepth 20000 in
theorem ggX3_buy_X3_checkPutOff : GoodIn wsX3_buy wsX3_checkPutOff := goodIn_ca (goodIn_r _ [19, 9, 10] (by decide +kernel) (by decide +kernel)) (goodIn_sub (fun _ h => List.mem_cons_of_mem _ (List.mem_append_right _ h)) (by decide +kernel))
set_option maxRecDepth 20000 in
theorem gX3_buy_X3_checkPutOff : GoodIn wsX3_buy (va_wsS RX3 69 yX3_checkPutOff wsX3_checkPutOff) := goodIn_app (goodIn_of _ (by decide +kernel)) ggX3_buy_X3_checkPutOff
set_option maxRecDepth 20000 in
theorem ggX3_buy_X0_isFull : GoodIn wsX3_buy wsX0_isFull := goodIn_r _ [24, 25, 76, 77, 78, 79, 80, 81, 82] (by decide +kernel) (by decide +kernel)
set_option maxRecDepth 20000 in
theorem gX3_buy_X0_isFull : GoodIn wsX3_buy (wsV RX3 72 RX0 yX0_isFull wsX0_isFull) := goodIn_app (goodIn_of _ (by decide +kernel)) ggX3_buy_X0_isFull
set_option maxRecDepth 20000 in
theorem ggX3_buy_X1_worthNow : GoodIn wsX3_buy wsX1_worthNow := goodIn_r _ [30, 31, 32, 33, 34, 29, 35, 36, 37, 38, 39, 40, 12, 7, 13, 83, 84] (by decide +kernel) (by decide +kernel)
set_option maxRecDepth 20000 in
theorem gX3_buy_X1_worthNow : GoodIn wsX3_buy (wsV RX3 81 RX1 yX1_worthNow wsX1_worthNow) := goodIn_app (goodIn_of _ (by decide +kernel)) ggX3_buy_X1_worthNow
set_option maxRecDepth 20000 in
theorem ggX3_buy_X1_priceOf : GoodIn wsX3_buy wsX1_priceOf := goodIn_r _ [44, 31, 83, 84] (by decide +kernel) (by decide +kernel)
set_option maxRecDepth 20000 in
theorem gX3_buy_X1_priceOf : GoodIn wsX3_buy (wsV RX3 87 RX1 yX1_priceOf wsX1_priceOf) := goodIn_app (goodIn_of _ (by decide +kernel)) ggX3_buy_X1_priceOf
set_option maxRecDepth 20000 in
theorem ggX3_buy_X0_write : GoodIn wsX3_buy wsX0_write := goodIn_r _ [48, 25, 49, 50, 51, 52, 23, 53, 54, 55, 56, 57, 58, 59, 60, 61, 62, 63, 64, 65, 66, 67, 68, 69, 70, 71, 72, 76, 77, 78, 79, 80, 81, 82, 85, 86, 87, 88, 89, 90, 91] (by decide +kernel) (by decide +kernel)
set_option maxRecDepth 20000 in
theorem gX3_buy_X0_write : GoodIn wsX3_buy (wsV RX3 90 RX0 yX0_write wsX0_write) := goodIn_app (goodIn_of _ (by decide +kernel)) ggX3_buy_X0_write
theorem dX3_buy_0 : decode cX3_buy 0 = .ok (.iload_n 1, 1) := by decide +kernel
theorem dX3_buy_1 : decode cX3_buy 1 = .ok (.invokestatic 62, 3) := by decide +kernel
theorem dX3_buy_4 : decode cX3_buy 4 = .ok (.iload_n 2, 1) := by decide +kernel
theorem dX3_buy_5 : decode cX3_buy 5 = .ok (.invokestatic 66, 3) := by decide +kernel
theorem dX3_buy_8 : decode cX3_buy 8 = .ok (.iload_n 3, 1) := by decide +kernel
theorem dX3_buy_9 : decode cX3_buy 9 = .ok (.invokestatic 69, 3) := by decide +kernel
theorem dX3_buy_12 : decode cX3_buy 12 = .ok (.aload_n 0, 1) := by decide +kernel
theorem dX3_buy_13 : decode cX3_buy 13 = .ok (.getfield 21, 3) := by decide +kernel
theorem dX3_buy_16 : decode cX3_buy 16 = .ok (.invokevirtual 72, 3) := by decide +kernel
theorem dX3_buy_19 : decode cX3_buy 19 = .ok (.ifCond .eq 13, 3) := by decide +kernel
theorem dX3_buy_22 : decode cX3_buy 22 = .ok (.new 76, 3) := by decide +kernel
theorem dX3_buy_25 : decode cX3_buy 25 = .ok (.dup, 1) := by decide +kernel
theorem dX3_buy_26 : decode cX3_buy 26 = .ok (.ldc 78, 2) := by decide +kernel
theorem dX3_buy_28 : decode cX3_buy 28 = .ok (.invokespecial 80, 3) := by decide +kernel
theorem dX3_buy_31 : decode cX3_buy 31 = .ok (.athrow, 1) := by decide +kernel
theorem dX3_buy_32 : decode cX3_buy 32 = .ok (.aload_n 0, 1) := by decide +kernel
theorem dX3_buy_33 : decode cX3_buy 33 = .ok (.getfield 12, 3) := by decide +kernel
theorem dX3_buy_36 : decode cX3_buy 36 = .ok (.iload_n 1, 1) := by decide +kernel
theorem dX3_buy_37 : decode cX3_buy 37 = .ok (.iload_n 3, 1) := by decide +kernel
theorem dX3_buy_38 : decode cX3_buy 38 = .ok (.invokevirtual 81, 3) := by decide +kernel
theorem dX3_buy_41 : decode cX3_buy 41 = .ok (.istore 4, 2) := by decide +kernel
theorem dX3_buy_43 : decode cX3_buy 43 = .ok (.iload 4, 2) := by decide +kernel
theorem dX3_buy_45 : decode cX3_buy 45 = .ok (.ifCond .ne 13, 3) := by decide +kernel
theorem dX3_buy_48 : decode cX3_buy 48 = .ok (.new 76, 3) := by decide +kernel
theorem dX3_buy_51 : decode cX3_buy 51 = .ok (.dup, 1) := by decide +kernel
theorem dX3_buy_52 : decode cX3_buy 52 = .ok (.ldc 85, 2) := by decide +kernel
theorem dX3_buy_54 : decode cX3_buy 54 = .ok (.invokespecial 80, 3) := by decide +kernel
theorem dX3_buy_57 : decode cX3_buy 57 = .ok (.athrow, 1) := by decide +kernel
theorem dX3_buy_58 : decode cX3_buy 58 = .ok (.aload_n 0, 1) := by decide +kernel
theorem dX3_buy_59 : decode cX3_buy 59 = .ok (.getfield 21, 3) := by decide +kernel
theorem dX3_buy_62 : decode cX3_buy 62 = .ok (.iload_n 1, 1) := by decide +kernel
theorem dX3_buy_63 : decode cX3_buy 63 = .ok (.iload_n 2, 1) := by decide +kernel
theorem dX3_buy_64 : decode cX3_buy 64 = .ok (.iload_n 3, 1) := by decide +kernel
theorem dX3_buy_65 : decode cX3_buy 65 = .ok (.aload_n 0, 1) := by decide +kernel
theorem dX3_buy_66 : decode cX3_buy 66 = .ok (.getfield 12, 3) := by decide +kernel
theorem dX3_buy_69 : decode cX3_buy 69 = .ok (.iload_n 2, 1) := by decide +kernel
theorem dX3_buy_70 : decode cX3_buy 70 = .ok (.iload 4, 2) := by decide +kernel
theorem dX3_buy_72 : decode cX3_buy 72 = .ok (.invokevirtual 87, 3) := by decide +kernel
theorem dX3_buy_75 : decode cX3_buy 75 = .ok (.invokevirtual 90, 3) := by decide +kernel
theorem dX3_buy_78 : decode cX3_buy 78 = .ok (.ireturn, 1) := by decide +kernel
set_option maxRecDepth 20000 in
theorem ggX3_die_X3_checkWidow : GoodIn wsX3_die wsX3_checkWidow := goodIn_ca (goodIn_r _ [10, 11, 12, 3, 13, 51, 52, 53, 61, 62, 63, 64, 65, 66, 67] (by decide +kernel) (by decide +kernel)) (goodIn_sub (fun _ h => List.mem_cons_of_mem _ (List.mem_append_right _ h)) (by decide +kernel))
set_option maxRecDepth 20000 in
theorem gX3_die_X3_checkWidow : GoodIn wsX3_die (wsV RX3 94 RX3 yX3_checkWidow wsX3_checkWidow) := goodIn_app (goodIn_of _ (by decide +kernel)) ggX3_die_X3_checkWidow
set_option maxRecDepth 20000 in
theorem ggX3_die_X0_widowAt : GoodIn wsX3_die wsX0_widowAt := goodIn_r _ [18, 19, 61, 62, 63, 64, 65, 66, 67] (by decide +kernel) (by decide +kernel)
set_option maxRecDepth 20000 in
theorem gX3_die_X0_widowAt : GoodIn wsX3_die (wsV RX3 97 RX0 yX0_widowAt wsX0_widowAt) := goodIn_app (goodIn_of _ (by decide +kernel)) ggX3_die_X0_widowAt
set_option maxRecDepth 20000 in
theorem ggX3_die_X2_lives : GoodIn wsX3_die wsX2_lives := goodIn_r _ [24, 25, 54, 55, 56, 57, 58, 59, 60] (by decide +kernel) (by decide +kernel)
set_option maxRecDepth 20000 in
theorem gX3_die_X2_lives : GoodIn wsX3_die (wsV RX3 101 RX2 yX2_lives wsX2_lives) := goodIn_app (goodIn_of _ (by decide +kernel)) ggX3_die_X2_lives
set_option maxRecDepth 20000 in
theorem ggX3_die_X1_keptNow : GoodIn wsX3_die wsX1_keptNow := goodIn_r _ [30, 31, 32, 33, 34, 29, 35, 36, 37, 38, 39, 21, 22, 23, 24, 25, 40, 41, 42, 43, 44, 45, 46, 47, 48, 49, 9, 50, 68, 69, 54, 55, 56, 57, 58, 59, 60] (by decide +kernel) (by decide +kernel)
set_option maxRecDepth 20000 in
theorem gX3_die_X1_keptNow : GoodIn wsX3_die (wsV RX3 108 RX1 yX1_keptNow wsX1_keptNow) := goodIn_app (goodIn_of _ (by decide +kernel)) ggX3_die_X1_keptNow
theorem dX3_die_0 : decode cX3_die 0 = .ok (.aload_n 0, 1) := by decide +kernel
theorem dX3_die_1 : decode cX3_die 1 = .ok (.iload_n 1, 1) := by decide +kernel
theorem dX3_die_2 : decode cX3_die 2 = .ok (.invokevirtual 94, 3) := by decide +kernel
theorem dX3_die_5 : decode cX3_die 5 = .ok (.aload_n 0, 1) := by decide +kernel
theorem dX3_die_6 : decode cX3_die 6 = .ok (.getfield 21, 3) := by decide +kernel
theorem dX3_die_9 : decode cX3_die 9 = .ok (.iload_n 1, 1) := by decide +kernel
theorem dX3_die_10 : decode cX3_die 10 = .ok (.invokevirtual 97, 3) := by decide +kernel
theorem dX3_die_13 : decode cX3_die 13 = .ok (.astore_n 2, 1) := by decide +kernel
theorem dX3_die_14 : decode cX3_die 14 = .ok (.aload_n 2, 1) := by decide +kernel
theorem dX3_die_15 : decode cX3_die 15 = .ok (.invokevirtual 101, 3) := by decide +kernel
theorem dX3_die_18 : decode cX3_die 18 = .ok (.ifCond .ne 13, 3) := by decide +kernel
theorem dX3_die_21 : decode cX3_die 21 = .ok (.new 76, 3) := by decide +kernel
theorem dX3_die_24 : decode cX3_die 24 = .ok (.dup, 1) := by decide +kernel
theorem dX3_die_25 : decode cX3_die 25 = .ok (.ldc 106, 2) := by decide +kernel
theorem dX3_die_27 : decode cX3_die 27 = .ok (.invokespecial 80, 3) := by decide +kernel
theorem dX3_die_30 : decode cX3_die 30 = .ok (.athrow, 1) := by decide +kernel
theorem dX3_die_31 : decode cX3_die 31 = .ok (.aload_n 0, 1) := by decide +kernel
theorem dX3_die_32 : decode cX3_die 32 = .ok (.getfield 12, 3) := by decide +kernel
theorem dX3_die_35 : decode cX3_die 35 = .ok (.aload_n 2, 1) := by decide +kernel
theorem dX3_die_36 : decode cX3_die 36 = .ok (.invokevirtual 108, 3) := by decide +kernel
theorem dX3_die_39 : decode cX3_die 39 = .ok (.istore_n 3, 1) := by decide +kernel
theorem dX3_die_40 : decode cX3_die 40 = .ok (.aload_n 2, 1) := by decide +kernel
theorem dX3_die_41 : decode cX3_die 41 = .ok (.iconst 1, 1) := by decide +kernel
theorem dX3_die_42 : decode cX3_die 42 = .ok (.putfield 112, 3) := by decide +kernel
theorem dX3_die_45 : decode cX3_die 45 = .ok (.iload_n 3, 1) := by decide +kernel
theorem dX3_die_46 : decode cX3_die 46 = .ok (.ireturn, 1) := by decide +kernel
set_option maxRecDepth 20000 in
theorem ggX3_giveUp_X3_checkWidow : GoodIn wsX3_giveUp wsX3_checkWidow := goodIn_ca (goodIn_r _ [11, 12, 13, 3, 14, 68, 69, 70, 78, 79, 80, 81, 82, 83, 84] (by decide +kernel) (by decide +kernel)) (goodIn_sub (fun _ h => List.mem_cons_of_mem _ (List.mem_append_right _ h)) (by decide +kernel))
set_option maxRecDepth 20000 in
theorem gX3_giveUp_X3_checkWidow : GoodIn wsX3_giveUp (wsV RX3 94 RX3 yX3_checkWidow wsX3_checkWidow) := goodIn_app (goodIn_of _ (by decide +kernel)) ggX3_giveUp_X3_checkWidow
set_option maxRecDepth 20000 in
theorem ggX3_giveUp_X0_widowAt : GoodIn wsX3_giveUp wsX0_widowAt := goodIn_r _ [19, 20, 78, 79, 80, 81, 82, 83, 84] (by decide +kernel) (by decide +kernel)
set_option maxRecDepth 20000 in
theorem gX3_giveUp_X0_widowAt : GoodIn wsX3_giveUp (wsV RX3 97 RX0 yX0_widowAt wsX0_widowAt) := goodIn_app (goodIn_of _ (by decide +kernel)) ggX3_giveUp_X0_widowAt
set_option maxRecDepth 20000 in
theorem ggX3_giveUp_X2_canGiveUp : GoodIn wsX3_giveUp wsX2_canGiveUp := goodIn_r _ [25, 26, 27, 28, 29, 24, 30, 31, 71, 72, 73, 74, 75, 76, 77] (by decide +kernel) (by decide +kernel)
set_option maxRecDepth 20000 in
theorem gX3_giveUp_X2_canGiveUp : GoodIn wsX3_giveUp (wsV RX3 116 RX2 yX2_canGiveUp wsX2_canGiveUp) := goodIn_app (goodIn_of _ (by decide +kernel)) ggX3_giveUp_X2_canGiveUp
set_option maxRecDepth 20000 in
theorem ggX3_giveUp_X1_givenBack : GoodIn wsX3_giveUp wsX1_givenBack := goodIn_r _ [36, 37, 38, 22, 23, 24, 25, 26, 27, 28, 29, 30, 31, 39, 40, 41, 35, 42, 43, 44, 45, 46, 47, 48, 49, 50, 51, 52, 53, 54, 55, 56, 57, 58, 59, 60, 10, 61, 85, 86, 71, 72, 73, 74, 75, 76, 77] (by decide +kernel) (by decide +kernel)
set_option maxRecDepth 20000 in
theorem gX3_giveUp_X1_givenBack : GoodIn wsX3_giveUp (wsV RX3 121 RX1 yX1_givenBack wsX1_givenBack) := goodIn_app (goodIn_of _ (by decide +kernel)) ggX3_giveUp_X1_givenBack
set_option maxRecDepth 20000 in
theorem ggX3_giveUp_X0_payOut : GoodIn wsX3_giveUp wsX0_payOut := goodIn_r _ [65, 66, 67, 78, 79, 80, 81, 82, 83, 84] (by decide +kernel) (by decide +kernel)
set_option maxRecDepth 20000 in
theorem gX3_giveUp_X0_payOut : GoodIn wsX3_giveUp (wsV RX3 127 RX0 yX0_payOut wsX0_payOut) := goodIn_app (goodIn_of _ (by decide +kernel)) ggX3_giveUp_X0_payOut
theorem dX3_giveUp_0 : decode cX3_giveUp 0 = .ok (.aload_n 0, 1) := by decide +kernel
theorem dX3_giveUp_1 : decode cX3_giveUp 1 = .ok (.iload_n 1, 1) := by decide +kernel
theorem dX3_giveUp_2 : decode cX3_giveUp 2 = .ok (.invokevirtual 94, 3) := by decide +kernel
theorem dX3_giveUp_5 : decode cX3_giveUp 5 = .ok (.aload_n 0, 1) := by decide +kernel
theorem dX3_giveUp_6 : decode cX3_giveUp 6 = .ok (.getfield 21, 3) := by decide +kernel
theorem dX3_giveUp_9 : decode cX3_giveUp 9 = .ok (.iload_n 1, 1) := by decide +kernel
theorem dX3_giveUp_10 : decode cX3_giveUp 10 = .ok (.invokevirtual 97, 3) := by decide +kernel
theorem dX3_giveUp_13 : decode cX3_giveUp 13 = .ok (.astore_n 2, 1) := by decide +kernel
theorem dX3_giveUp_14 : decode cX3_giveUp 14 = .ok (.aload_n 2, 1) := by decide +kernel
theorem dX3_giveUp_15 : decode cX3_giveUp 15 = .ok (.invokevirtual 116, 3) := by decide +kernel
theorem dX3_giveUp_18 : decode cX3_giveUp 18 = .ok (.ifCond .ne 13, 3) := by decide +kernel
theorem dX3_giveUp_21 : decode cX3_giveUp 21 = .ok (.new 76, 3) := by decide +kernel
theorem dX3_giveUp_24 : decode cX3_giveUp 24 = .ok (.dup, 1) := by decide +kernel
theorem dX3_giveUp_25 : decode cX3_giveUp 25 = .ok (.ldc 119, 2) := by decide +kernel
theorem dX3_giveUp_27 : decode cX3_giveUp 27 = .ok (.invokespecial 80, 3) := by decide +kernel
theorem dX3_giveUp_30 : decode cX3_giveUp 30 = .ok (.athrow, 1) := by decide +kernel
theorem dX3_giveUp_31 : decode cX3_giveUp 31 = .ok (.aload_n 0, 1) := by decide +kernel
theorem dX3_giveUp_32 : decode cX3_giveUp 32 = .ok (.getfield 12, 3) := by decide +kernel
theorem dX3_giveUp_35 : decode cX3_giveUp 35 = .ok (.aload_n 2, 1) := by decide +kernel
theorem dX3_giveUp_36 : decode cX3_giveUp 36 = .ok (.invokevirtual 121, 3) := by decide +kernel
theorem dX3_giveUp_39 : decode cX3_giveUp 39 = .ok (.istore_n 3, 1) := by decide +kernel
theorem dX3_giveUp_40 : decode cX3_giveUp 40 = .ok (.aload_n 2, 1) := by decide +kernel
theorem dX3_giveUp_41 : decode cX3_giveUp 41 = .ok (.iconst 2, 1) := by decide +kernel
theorem dX3_giveUp_42 : decode cX3_giveUp 42 = .ok (.putfield 112, 3) := by decide +kernel
theorem dX3_giveUp_45 : decode cX3_giveUp 45 = .ok (.aload_n 2, 1) := by decide +kernel
theorem dX3_giveUp_46 : decode cX3_giveUp 46 = .ok (.dup, 1) := by decide +kernel
theorem dX3_giveUp_47 : decode cX3_giveUp 47 = .ok (.getfield 124, 3) := by decide +kernel
theorem dX3_giveUp_50 : decode cX3_giveUp 50 = .ok (.iload_n 3, 1) := by decide +kernel
theorem dX3_giveUp_51 : decode cX3_giveUp 51 = .ok (.iadd, 1) := by decide +kernel
theorem dX3_giveUp_52 : decode cX3_giveUp 52 = .ok (.putfield 124, 3) := by decide +kernel
theorem dX3_giveUp_55 : decode cX3_giveUp 55 = .ok (.aload_n 0, 1) := by decide +kernel
theorem dX3_giveUp_56 : decode cX3_giveUp 56 = .ok (.getfield 21, 3) := by decide +kernel
theorem dX3_giveUp_59 : decode cX3_giveUp 59 = .ok (.iload_n 3, 1) := by decide +kernel
theorem dX3_giveUp_60 : decode cX3_giveUp 60 = .ok (.invokevirtual 127, 3) := by decide +kernel
theorem dX3_giveUp_63 : decode cX3_giveUp 63 = .ok (.iload_n 3, 1) := by decide +kernel
theorem dX3_giveUp_64 : decode cX3_giveUp 64 = .ok (.ireturn, 1) := by decide +kernel
set_option maxRecDepth 20000 in
theorem ggX3_put_X0_takeIn : GoodIn wsX3_put wsX0_takeIn := goodIn_r _ [11, 12, 13, 17, 18, 19, 20, 21, 22, 23] (by decide +kernel) (by decide +kernel)
set_option maxRecDepth 20000 in
theorem gX3_put_X0_takeIn : GoodIn wsX3_put (wsV RX3 134 RX0 yX0_takeIn wsX0_takeIn) := goodIn_app (goodIn_of _ (by decide +kernel)) ggX3_put_X0_takeIn
theorem dX3_put_0 : decode cX3_put 0 = .ok (.iload_n 1, 1) := by decide +kernel
theorem dX3_put_1 : decode cX3_put 1 = .ok (.ldc 130, 2) := by decide +kernel
theorem dX3_put_3 : decode cX3_put 3 = .ok (.if_icmp .lt 9, 3) := by decide +kernel
theorem dX3_put_6 : decode cX3_put 6 = .ok (.iload_n 1, 1) := by decide +kernel
theorem dX3_put_7 : decode cX3_put 7 = .ok (.ldc 131, 2) := by decide +kernel
theorem dX3_put_9 : decode cX3_put 9 = .ok (.if_icmp .le 13, 3) := by decide +kernel
theorem dX3_put_12 : decode cX3_put 12 = .ok (.new 39, 3) := by decide +kernel
theorem dX3_put_15 : decode cX3_put 15 = .ok (.dup, 1) := by decide +kernel
theorem dX3_put_16 : decode cX3_put 16 = .ok (.ldc 132, 2) := by decide +kernel
theorem dX3_put_18 : decode cX3_put 18 = .ok (.invokespecial 43, 3) := by decide +kernel
theorem dX3_put_21 : decode cX3_put 21 = .ok (.athrow, 1) := by decide +kernel
theorem dX3_put_22 : decode cX3_put 22 = .ok (.aload_n 0, 1) := by decide +kernel
theorem dX3_put_23 : decode cX3_put 23 = .ok (.getfield 21, 3) := by decide +kernel
theorem dX3_put_26 : decode cX3_put 26 = .ok (.iload_n 1, 1) := by decide +kernel
theorem dX3_put_27 : decode cX3_put 27 = .ok (.invokevirtual 134, 3) := by decide +kernel
theorem dX3_put_30 : decode cX3_put 30 = .ok (.aload_n 0, 1) := by decide +kernel
theorem dX3_put_31 : decode cX3_put 31 = .ok (.getfield 21, 3) := by decide +kernel
theorem dX3_put_34 : decode cX3_put 34 = .ok (.getfield 137, 3) := by decide +kernel
theorem dX3_put_37 : decode cX3_put 37 = .ok (.ireturn, 1) := by decide +kernel
set_option maxRecDepth 20000 in
theorem ggX3_worth_X3_checkAge : GoodIn wsX3_worth wsX3_checkAge := goodIn_ca (goodIn_r _ [5, 6, 7, 8, 9, 4, 10] (by decide +kernel) (by decide +kernel)) (goodIn_sub (fun _ h => List.mem_cons_of_mem _ (List.mem_append_right _ h)) (by decide +kernel))
set_option maxRecDepth 20000 in
theorem gX3_worth_X3_checkAge : GoodIn wsX3_worth (va_wsS RX3 62 yX3_checkAge wsX3_checkAge) := goodIn_app (goodIn_of _ (by decide +kernel)) ggX3_worth_X3_checkAge
set_option maxRecDepth 20000 in
theorem ggX3_worth_X3_checkPutOff : GoodIn wsX3_worth wsX3_checkPutOff := goodIn_ca (goodIn_r _ [13, 6, 7] (by decide +kernel) (by decide +kernel)) (goodIn_sub (fun _ h => List.mem_cons_of_mem _ (List.mem_append_right _ h)) (by decide +kernel))
set_option maxRecDepth 20000 in
theorem gX3_worth_X3_checkPutOff : GoodIn wsX3_worth (va_wsS RX3 69 yX3_checkPutOff wsX3_checkPutOff) := goodIn_app (goodIn_of _ (by decide +kernel)) ggX3_worth_X3_checkPutOff
set_option maxRecDepth 20000 in
theorem ggX3_worth_X1_worthNow : GoodIn wsX3_worth wsX1_worthNow := goodIn_r _ [18, 19, 20, 21, 22, 17, 23, 24, 25, 26, 27, 28, 9, 4, 10, 32, 33] (by decide +kernel) (by decide +kernel)
set_option maxRecDepth 20000 in
theorem gX3_worth_X1_worthNow : GoodIn wsX3_worth (wsV RX3 81 RX1 yX1_worthNow wsX1_worthNow) := goodIn_app (goodIn_of _ (by decide +kernel)) ggX3_worth_X1_worthNow
theorem dX3_worth_0 : decode cX3_worth 0 = .ok (.iload_n 1, 1) := by decide +kernel
theorem dX3_worth_1 : decode cX3_worth 1 = .ok (.invokestatic 62, 3) := by decide +kernel
theorem dX3_worth_4 : decode cX3_worth 4 = .ok (.iload_n 2, 1) := by decide +kernel
theorem dX3_worth_5 : decode cX3_worth 5 = .ok (.invokestatic 69, 3) := by decide +kernel
theorem dX3_worth_8 : decode cX3_worth 8 = .ok (.aload_n 0, 1) := by decide +kernel
theorem dX3_worth_9 : decode cX3_worth 9 = .ok (.getfield 12, 3) := by decide +kernel
theorem dX3_worth_12 : decode cX3_worth 12 = .ok (.iload_n 1, 1) := by decide +kernel
theorem dX3_worth_13 : decode cX3_worth 13 = .ok (.iload_n 2, 1) := by decide +kernel
theorem dX3_worth_14 : decode cX3_worth 14 = .ok (.invokevirtual 81, 3) := by decide +kernel
theorem dX3_worth_17 : decode cX3_worth 17 = .ok (.ireturn, 1) := by decide +kernel
set_option maxRecDepth 20000 in
theorem ggX3_price_X3_checkAge : GoodIn wsX3_price wsX3_checkAge := goodIn_ca (goodIn_r _ [5, 6, 7, 8, 9, 4, 10] (by decide +kernel) (by decide +kernel)) (goodIn_sub (fun _ h => List.mem_cons_of_mem _ (List.mem_append_right _ h)) (by decide +kernel))
set_option maxRecDepth 20000 in
theorem gX3_price_X3_checkAge : GoodIn wsX3_price (va_wsS RX3 62 yX3_checkAge wsX3_checkAge) := goodIn_app (goodIn_of _ (by decide +kernel)) ggX3_price_X3_checkAge
set_option maxRecDepth 20000 in
theorem ggX3_price_X3_checkSum : GoodIn wsX3_price wsX3_checkSum := goodIn_ca (goodIn_r _ [13, 6, 7] (by decide +kernel) (by decide +kernel)) (goodIn_sub (fun _ h => List.mem_cons_of_mem _ (List.mem_append_right _ h)) (by decide +kernel))
set_option maxRecDepth 20000 in
theorem gX3_price_X3_checkSum : GoodIn wsX3_price (va_wsS RX3 66 yX3_checkSum wsX3_checkSum) := goodIn_app (goodIn_of _ (by decide +kernel)) ggX3_price_X3_checkSum
set_option maxRecDepth 20000 in
theorem ggX3_price_X3_checkPutOff : GoodIn wsX3_price wsX3_checkPutOff := goodIn_ca (goodIn_r _ [16, 6, 7] (by decide +kernel) (by decide +kernel)) (goodIn_sub (fun _ h => List.mem_cons_of_mem _ (List.mem_append_right _ h)) (by decide +kernel))

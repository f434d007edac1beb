theorem dX3_setDeaths_51 : decode cX3_setDeaths 51 = .ok (.iload_n 1, 1) := by decide +kernel
theorem dX3_setDeaths_52 : decode cX3_setDeaths 52 = .ok (.iload_n 2, 1) := by decide +kernel
theorem dX3_setDeaths_53 : decode cX3_setDeaths 53 = .ok (.invokevirtual 48, 3) := by decide +kernel
theorem dX3_setDeaths_56 : decode cX3_setDeaths 56 = .ok (.iload_n 3, 1) := by decide +kernel
theorem dX3_setDeaths_57 : decode cX3_setDeaths 57 = .ok (.ireturn, 1) := by decide +kernel
set_option maxRecDepth 20000 in
theorem ggX3_setRate_X1_rate : GoodIn wsX3_setRate wsX1_rate := goodIn_r _ [10, 11, 19, 20] (by decide +kernel) (by decide +kernel)
set_option maxRecDepth 20000 in
theorem gX3_setRate_X1_rate : GoodIn wsX3_setRate (wsV RX3 56 RX1 yX1_rate wsX1_rate) := goodIn_app (goodIn_of _ (by decide +kernel)) ggX3_setRate_X1_rate
set_option maxRecDepth 20000 in
theorem ggX3_setRate_X1_changeRate : GoodIn wsX3_setRate wsX1_changeRate := goodIn_r _ [15, 11, 19, 20] (by decide +kernel) (by decide +kernel)
set_option maxRecDepth 20000 in
theorem gX3_setRate_X1_changeRate : GoodIn wsX3_setRate (wsV RX3 59 RX1 yX1_changeRate wsX1_changeRate) := goodIn_app (goodIn_of _ (by decide +kernel)) ggX3_setRate_X1_changeRate
theorem dX3_setRate_0 : decode cX3_setRate 0 = .ok (.iload_n 1, 1) := by decide +kernel
theorem dX3_setRate_1 : decode cX3_setRate 1 = .ok (.ifCond .lt 8, 3) := by decide +kernel
theorem dX3_setRate_4 : decode cX3_setRate 4 = .ok (.iload_n 1, 1) := by decide +kernel
theorem dX3_setRate_5 : decode cX3_setRate 5 = .ok (.iconst 3, 1) := by decide +kernel
theorem dX3_setRate_6 : decode cX3_setRate 6 = .ok (.if_icmp .lt 13, 3) := by decide +kernel
theorem dX3_setRate_9 : decode cX3_setRate 9 = .ok (.new 32, 3) := by decide +kernel
theorem dX3_setRate_12 : decode cX3_setRate 12 = .ok (.dup, 1) := by decide +kernel
theorem dX3_setRate_13 : decode cX3_setRate 13 = .ok (.ldc 52, 2) := by decide +kernel
theorem dX3_setRate_15 : decode cX3_setRate 15 = .ok (.invokespecial 36, 3) := by decide +kernel
theorem dX3_setRate_18 : decode cX3_setRate 18 = .ok (.athrow, 1) := by decide +kernel
theorem dX3_setRate_19 : decode cX3_setRate 19 = .ok (.iload_n 2, 1) := by decide +kernel
theorem dX3_setRate_20 : decode cX3_setRate 20 = .ok (.ifCond .lt 19, 3) := by decide +kernel
theorem dX3_setRate_23 : decode cX3_setRate 23 = .ok (.iload_n 2, 1) := by decide +kernel
theorem dX3_setRate_24 : decode cX3_setRate 24 = .ok (.iload_n 1, 1) := by decide +kernel
theorem dX3_setRate_25 : decode cX3_setRate 25 = .ok (.ifCond .ne 9, 3) := by decide +kernel
theorem dX3_setRate_28 : decode cX3_setRate 28 = .ok (.sipush 200, 3) := by decide +kernel
theorem dX3_setRate_31 : decode cX3_setRate 31 = .ok (.goto 5, 3) := by decide +kernel
theorem dX3_setRate_34 : decode cX3_setRate 34 = .ok (.bipush 50, 2) := by decide +kernel
theorem dX3_setRate_36 : decode cX3_setRate 36 = .ok (.if_icmp .le 13, 3) := by decide +kernel
theorem dX3_setRate_39 : decode cX3_setRate 39 = .ok (.new 39, 3) := by decide +kernel
theorem dX3_setRate_42 : decode cX3_setRate 42 = .ok (.dup, 1) := by decide +kernel
theorem dX3_setRate_43 : decode cX3_setRate 43 = .ok (.ldc 54, 2) := by decide +kernel
theorem dX3_setRate_45 : decode cX3_setRate 45 = .ok (.invokespecial 43, 3) := by decide +kernel
theorem dX3_setRate_48 : decode cX3_setRate 48 = .ok (.athrow, 1) := by decide +kernel
theorem dX3_setRate_49 : decode cX3_setRate 49 = .ok (.aload_n 0, 1) := by decide +kernel
theorem dX3_setRate_50 : decode cX3_setRate 50 = .ok (.getfield 12, 3) := by decide +kernel
theorem dX3_setRate_53 : decode cX3_setRate 53 = .ok (.iload_n 1, 1) := by decide +kernel
theorem dX3_setRate_54 : decode cX3_setRate 54 = .ok (.invokevirtual 56, 3) := by decide +kernel
theorem dX3_setRate_57 : decode cX3_setRate 57 = .ok (.istore_n 3, 1) := by decide +kernel
theorem dX3_setRate_58 : decode cX3_setRate 58 = .ok (.aload_n 0, 1) := by decide +kernel
theorem dX3_setRate_59 : decode cX3_setRate 59 = .ok (.getfield 12, 3) := by decide +kernel
theorem dX3_setRate_62 : decode cX3_setRate 62 = .ok (.iload_n 1, 1) := by decide +kernel
theorem dX3_setRate_63 : decode cX3_setRate 63 = .ok (.iload_n 2, 1) := by decide +kernel
theorem dX3_setRate_64 : decode cX3_setRate 64 = .ok (.invokevirtual 59, 3) := by decide +kernel
theorem dX3_setRate_67 : decode cX3_setRate 67 = .ok (.iload_n 3, 1) := by decide +kernel
theorem dX3_setRate_68 : decode cX3_setRate 68 = .ok (.ireturn, 1) := by decide +kernel
set_option maxRecDepth 20000 in
theorem ggX3_buy_X3_checkAge : GoodIn wsX3_buy wsX3_checkAge := goodIn_ca (goodIn_r _ [8, 9, 10, 11, 12, 7, 13] (by decide +kernel) (by decide +kernel)) (goodIn_sub (fun _ h => List.mem_cons_of_mem _ (List.mem_append_right _ h)) (by decide +kernel))
set_option maxRecDepth 20000 in
theorem gX3_buy_X3_checkAge : GoodIn wsX3_buy (va_wsS RX3 62 yX3_checkAge wsX3_checkAge) := goodIn_app (goodIn_of _ (by decide +kernel)) ggX3_buy_X3_checkAge
set_option maxRecDepth 20000 in
theorem ggX3_buy_X3_checkSum : GoodIn wsX3_buy wsX3_checkSum := goodIn_ca (goodIn_r _ [16, 9, 10] (by decide +kernel) (by decide +kernel)) (goodIn_sub (fun _ h => List.mem_cons_of_mem _ (List.mem_append_right _ h)) (by decide +kernel))
set_option maxRecDepth 20000 in
theorem gX3_buy_X3_checkSum : GoodIn wsX3_buy (va_wsS RX3 66 yX3_checkSum wsX3_checkSum) := goodIn_app (goodIn_of _ (by decide +kernel)) ggX3_buy_X3_checkSum
set_option maxRecDepth 20000 in
theorem ggX3_buy_X3_checkPutOff : GoodIn wsX3_buy wsX3_checkPutOff := goodIn_ca (goodIn_r _ [19, 9, 10] (by decide +kernel) (by decide +kernel)) (goodIn_sub (fun _ h => List.mem_cons_of_mem _ (List.mem_append_right _ h)) (by decide +kernel))
set_option maxRecDepth 20000 in
theorem gX3_buy_X3_checkPutOff : GoodIn wsX3_buy (va_wsS RX3 69 yX3_checkPutOff wsX3_checkPutOff) := goodIn_app (goodIn_of _ (by decide +kernel)) ggX3_buy_X3_checkPutOff
set_option maxRecDepth 20000 in
theorem ggX3_buy_X0_isFull : GoodIn wsX3_buy wsX0_isFull := goodIn_r _ [24, 25, 76, 77, 78, 79, 80, 81, 82] (by decide +kernel) (by decide +kernel)
set_option maxRecDepth 20000 in
theorem gX3_buy_X0_isFull : GoodIn wsX3_buy (wsV RX3 72 RX0 yX0_isFull wsX0_isFull) := goodIn_app (goodIn_of _ (by decide +kernel)) ggX3_buy_X0_isFull
set_option maxRecDepth 20000 in
theorem ggX3_buy_X1_worthNow : GoodIn wsX3_buy wsX1_worthNow := goodIn_r _ [30, 31, 32, 33, 34, 29, 35, 36, 37, 38, 39, 40, 12, 7, 13, 83, 84] (by decide +kernel) (by decide +kernel)
set_option maxRecDepth 20000 in
theorem gX3_buy_X1_worthNow : GoodIn wsX3_buy (wsV RX3 81 RX1 yX1_worthNow wsX1_worthNow) := goodIn_app (goodIn_of _ (by decide +kernel)) ggX3_buy_X1_worthNow
set_option maxRecDepth 20000 in
theorem ggX3_buy_X1_priceOf : GoodIn wsX3_buy wsX1_priceOf := goodIn_r _ [44, 31, 83, 84] (by decide +kernel) (by decide +kernel)
set_option maxRecDepth 20000 in
theorem gX3_buy_X1_priceOf : GoodIn wsX3_buy (wsV RX3 87 RX1 yX1_priceOf wsX1_priceOf) := goodIn_app (goodIn_of _ (by decide +kernel)) ggX3_buy_X1_priceOf
set_option maxRecDepth 20000 in
theorem ggX3_buy_X0_write : GoodIn wsX3_buy wsX0_write := goodIn_r _ [48, 25, 49, 50, 51, 52, 23, 53, 54, 55, 56, 57, 58, 59, 60, 61, 62, 63, 64, 65, 66, 67, 68, 69, 70, 71, 72, 76, 77, 78, 79, 80, 81, 82, 85, 86, 87, 88, 89, 90, 91] (by decide +kernel) (by decide +kernel)
set_option maxRecDepth 20000 in
theorem gX3_buy_X0_write : GoodIn wsX3_buy (wsV RX3 90 RX0 yX0_write wsX0_write) := goodIn_app (goodIn_of _ (by decide +kernel)) ggX3_buy_X0_write
theorem dX3_buy_0 : decode cX3_buy 0 = .ok (.iload_n 1, 1) := by decide +kernel
theorem dX3_buy_1 : decode cX3_buy 1 = .ok (.invokestatic 62, 3) := by decide +kernel
theorem dX3_buy_4 : decode cX3_buy 4 = .ok (.iload_n 2, 1) := by decide +kernel
theorem dX3_buy_5 : decode cX3_buy 5 = .ok (.invokestatic 66, 3) := by decide +kernel
theorem dX3_buy_8 : decode cX3_buy 8 = .ok (.iload_n 3, 1) := by decide +kernel
theorem dX3_buy_9 : decode cX3_buy 9 = .ok (.invokestatic 69, 3) := by decide +kernel
theorem dX3_buy_12 : decode cX3_buy 12 = .ok (.aload_n 0, 1) := by decide +kernel
theorem dX3_buy_13 : decode cX3_buy 13 = .ok (.getfield 21, 3) := by decide +kernel
theorem dX3_buy_16 : decode cX3_buy 16 = .ok (.invokevirtual 72, 3) := by decide +kernel
theorem dX3_buy_19 : decode cX3_buy 19 = .ok (.ifCond .eq 13, 3) := by decide +kernel
theorem dX3_buy_22 : decode cX3_buy 22 = .ok (.new 76, 3) := by decide +kernel
theorem dX3_buy_25 : decode cX3_buy 25 = .ok (.dup, 1) := by decide +kernel
theorem dX3_buy_26 : decode cX3_buy 26 = .ok (.ldc 78, 2) := by decide +kernel
theorem dX3_buy_28 : decode cX3_buy 28 = .ok (.invokespecial 80, 3) := by decide +kernel
theorem dX3_buy_31 : decode cX3_buy 31 = .ok (.athrow, 1) := by decide +kernel
theorem dX3_buy_32 : decode cX3_buy 32 = .ok (.aload_n 0, 1) := by decide +kernel
theorem dX3_buy_33 : decode cX3_buy 33 = .ok (.getfield 12, 3) := by decide +kernel
theorem dX3_buy_36 : decode cX3_buy 36 = .ok (.iload_n 1, 1) := by decide +kernel
theorem dX3_buy_37 : decode cX3_buy 37 = .ok (.iload_n 3, 1) := by decide +kernel
theorem dX3_buy_38 : decode cX3_buy 38 = .ok (.invokevirtual 81, 3) := by decide +kernel
theorem dX3_buy_41 : decode cX3_buy 41 = .ok (.istore 4, 2) := by decide +kernel
theorem dX3_buy_43 : decode cX3_buy 43 = .ok (.iload 4, 2) := by decide +kernel
theorem dX3_buy_45 : decode cX3_buy 45 = .ok (.ifCond .ne 13, 3) := by decide +kernel
theorem dX3_buy_48 : decode cX3_buy 48 = .ok (.new 76, 3) := by decide +kernel
theorem dX3_buy_51 : decode cX3_buy 51 = .ok (.dup, 1) := by decide +kernel
theorem dX3_buy_52 : decode cX3_buy 52 = .ok (.ldc 85, 2) := by decide +kernel
theorem dX3_buy_54 : decode cX3_buy 54 = .ok (.invokespecial 80, 3) := by decide +kernel
theorem dX3_buy_57 : decode cX3_buy 57 = .ok (.athrow, 1) := by decide +kernel
theorem dX3_buy_58 : decode cX3_buy 58 = .ok (.aload_n 0, 1) := by decide +kernel
theorem dX3_buy_59 : decode cX3_buy 59 = .ok (.getfield 21, 3) := by decide +kernel
theorem dX3_buy_62 : decode cX3_buy 62 = .ok (.iload_n 1, 1) := by decide +kernel
theorem dX3_buy_63 : decode cX3_buy 63 = .ok (.iload_n 2, 1) := by decide +kernel
theorem dX3_buy_64 : decode cX3_buy 64 = .ok (.iload_n 3, 1) := by decide +kernel
theorem dX3_buy_65 : decode cX3_buy 65 = .ok (.aload_n 0, 1) := by decide +kernel
theorem dX3_buy_66 : decode cX3_buy 66 = .ok (.getfield 12, 3) := by decide +kernel
theorem dX3_buy_69 : decode cX3_buy 69 = .ok (.iload_n 2, 1) := by decide +kernel
theorem dX3_buy_70 : decode cX3_buy 70 = .ok (.iload 4, 2) := by decide +kernel
theorem dX3_buy_72 : decode cX3_buy 72 = .ok (.invokevirtual 87, 3) := by decide +kernel
theorem dX3_buy_75 : decode cX3_buy 75 = .ok (.invokevirtual 90, 3) := by decide +kernel
theorem dX3_buy_78 : decode cX3_buy 78 = .ok (.ireturn, 1) := by decide +kernel
set_option maxRecDepth 20000 in
theorem ggX3_die_X3_checkWidow : GoodIn wsX3_die wsX3_checkWidow := goodIn_ca (goodIn_r _ [10, 11, 12, 3, 13, 51, 52, 53, 61, 62, 63, 64, 65, 66, 67] (by decide +kernel) (by decide +kernel)) (goodIn_sub (fun _ h => List.mem_cons_of_mem _ (List.mem_append_right _ h)) (by decide +kernel))
set_option maxRecDepth 20000 in
theorem gX3_die_X3_checkWidow : GoodIn wsX3_die (wsV RX3 94 RX3 yX3_checkWidow wsX3_checkWidow) := goodIn_app (goodIn_of _ (by decide +kernel)) ggX3_die_X3_checkWidow
set_option maxRecDepth 20000 in
theorem ggX3_die_X0_widowAt : GoodIn wsX3_die wsX0_widowAt := goodIn_r _ [18, 19, 61, 62, 63, 64, 65, 66, 67] (by decide +kernel) (by decide +kernel)
set_option maxRecDepth 20000 in
theorem gX3_die_X0_widowAt : GoodIn wsX3_die (wsV RX3 97 RX0 yX0_widowAt wsX0_widowAt) := goodIn_app (goodIn_of _ (by decide +kernel)) ggX3_die_X0_widowAt
set_option maxRecDepth 20000 in
theorem ggX3_die_X2_lives : GoodIn wsX3_die wsX2_lives := goodIn_r _ [24, 25, 54, 55, 56, 57, 58, 59, 60] (by decide +kernel) (by decide +kernel)
set_option maxRecDepth 20000 in
theorem gX3_die_X2_lives : GoodIn wsX3_die (wsV RX3 101 RX2 yX2_lives wsX2_lives) := goodIn_app (goodIn_of _ (by decide +kernel)) ggX3_die_X2_lives
set_option maxRecDepth 20000 in
theorem ggX3_die_X1_keptNow : GoodIn wsX3_die wsX1_keptNow := goodIn_r _ [30, 31, 32, 33, 34, 29, 35, 36, 37, 38, 39, 21, 22, 23, 24, 25, 40, 41, 42, 43, 44, 45, 46, 47, 48, 49, 9, 50, 68, 69, 54, 55, 56, 57, 58, 59, 60] (by decide +kernel) (by decide +kernel)
set_option maxRecDepth 20000 in
theorem gX3_die_X1_keptNow : GoodIn wsX3_die (wsV RX3 108 RX1 yX1_keptNow wsX1_keptNow) := goodIn_app (goodIn_of _ (by decide +kernel)) ggX3_die_X1_keptNow
theorem dX3_die_0 : decode cX3_die 0 = .ok (.aload_n 0, 1) := by decide +kernel
theorem dX3_die_1 : decode cX3_die 1 = .ok (.iload_n 1, 1) := by decide +kernel
theorem dX3_die_2 : decode cX3_die 2 = .ok (.invokevirtual 94, 3) := by decide +kernel
theorem dX3_die_5 : decode cX3_die 5 = .ok (.aload_n 0, 1) := by decide +kernel
theorem dX3_die_6 : decode cX3_die 6 = .ok (.getfield 21, 3) := by decide +kernel
theorem dX3_die_9 : decode cX3_die 9 = .ok (.iload_n 1, 1) := by decide +kernel
theorem dX3_die_10 : decode cX3_die 10 = .ok (.invokevirtual 97, 3) := by decide +kernel
theorem dX3_die_13 : decode cX3_die 13 = .ok (.astore_n 2, 1) := by decide +kernel
theorem dX3_die_14 : decode cX3_die 14 = .ok (.aload_n 2, 1) := by decide +kernel
theorem dX3_die_15 : decode cX3_die 15 = .ok (.invokevirtual 101, 3) := by decide +kernel
theorem dX3_die_18 : decode cX3_die 18 = .ok (.ifCond .ne 13, 3) := by decide +kernel
theorem dX3_die_21 : decode cX3_die 21 = .ok (.new 76, 3) := by decide +kernel
theorem dX3_die_24 : decode cX3_die 24 = .ok (.dup, 1) := by decide +kernel
theorem dX3_die_25 : decode cX3_die 25 = .ok (.ldc 106, 2) := by decide +kernel
theorem dX3_die_27 : decode cX3_die 27 = .ok (.invokespecial 80, 3) := by decide +kernel
theorem dX3_die_30 : decode cX3_die 30 = .ok (.athrow, 1) := by decide +kernel
theorem dX3_die_31 : decode cX3_die 31 = .ok (.aload_n 0, 1) := by decide +kernel
theorem dX3_die_32 : decode cX3_die 32 = .ok (.getfield 12, 3) := by decide +kernel
theorem dX3_die_35 : decode cX3_die 35 = .ok (.aload_n 2, 1) := by decide +kernel
theorem dX3_die_36 : decode cX3_die 36 = .ok (.invokevirtual 108, 3) := by decide +kernel
theorem dX3_die_39 : decode cX3_die 39 = .ok (.istore_n 3, 1) := by decide +kernel
theorem dX3_die_40 : decode cX3_die 40 = .ok (.aload_n 2, 1) := by decide +kernel
theorem dX3_die_41 : decode cX3_die 41 = .ok (.iconst 1, 1) := by decide +kernel
theorem dX3_die_42 : decode cX3_die 42 = .ok (.putfield 112, 3) := by decide +kernel
theorem dX3_die_45 : decode cX3_die 45 = .ok (.iload_n 3, 1) := by decide +kernel
theorem dX3_die_46 : decode cX3_die 46 = .ok (.ireturn, 1) := by decide +kernel
set_option maxRecDepth 20000 in
theorem ggX3_giveUp_X3_checkWidow : GoodIn wsX3_giveUp wsX3_checkWidow := goodIn_ca (goodIn_r _ [11, 12, 13, 3, 14, 68, 69, 70, 78, 79, 80, 81, 82, 83, 84] (by decide +kernel) (by decide +kernel)) (goodIn_sub (fun _ h => List.mem_cons_of_mem _ (List.mem_append_right _ h)) (by decide +kernel))
set_option maxRecDepth 20000 in
theorem gX3_giveUp_X3_checkWidow : GoodIn wsX3_giveUp (wsV RX3 94 RX3 yX3_checkWidow wsX3_checkWidow) := goodIn_app (goodIn_of _ (by decide +kernel)) ggX3_giveUp_X3_checkWidow
set_option maxRecDepth 20000 in
theorem ggX3_giveUp_X0_widowAt : GoodIn wsX3_giveUp wsX0_widowAt := goodIn_r _ [19, 20, 78, 79, 80, 81, 82, 83, 84] (by decide +kernel) (by decide +kernel)
set_option maxRecDepth 20000 in
theorem gX3_giveUp_X0_widowAt : GoodIn wsX3_giveUp (wsV RX3 97 RX0 yX0_widowAt wsX0_widowAt) := goodIn_app (goodIn_of _ (by decide +kernel)) ggX3_giveUp_X0_widowAt
set_option maxRecDepth 20000 in
theorem ggX3_giveUp_X2_canGiveUp : GoodIn wsX3_giveUp wsX2_canGiveUp := goodIn_r _ [25, 26, 27, 28, 29, 24, 30, 31, 71, 72, 73, 74, 75, 76, 77] (by decide +kernel) (by decide +kernel)
set_option maxRecDepth 20000 in
theorem gX3_giveUp_X2_canGiveUp : GoodIn wsX3_giveUp (wsV RX3 116 RX2 yX2_canGiveUp wsX2_canGiveUp) := goodIn_app (goodIn_of _ (by decide +kernel)) ggX3_giveUp_X2_canGiveUp
set_option maxRecDepth 20000 in
theorem ggX3_giveUp_X1_givenBack : GoodIn wsX3_giveUp wsX1_givenBack := goodIn_r _ [36, 37, 38, 22, 23, 24, 25, 26, 27, 28, 29, 30, 31, 39, 40, 41, 35, 42, 43, 44, 45, 46, 47, 48, 49, 50, 51, 52, 53, 54, 55, 56, 57, 58, 59, 60, 10, 61, 85, 86, 71, 72, 73, 74, 75, 76, 77] (by decide +kernel) (by decide +kernel)
set_option maxRecDepth 20000 in
theorem gX3_giveUp_X1_givenBack : GoodIn wsX3_giveUp (wsV RX3 121 RX1 yX1_givenBack wsX1_givenBack) := goodIn_app (goodIn_of _ (by decide +kernel)) ggX3_giveUp_X1_givenBack
set_option maxRecDepth 20000 in
theorem ggX3_giveUp_X0_payOut : GoodIn wsX3_giveUp wsX0_payOut := goodIn_r _ [65, 66, 67, 78, 79, 80, 81, 82, 83, 84] (by decide +kernel) (by decide +kernel)
set_option maxRecDepth 20000 in
theorem gX3_giveUp_X0_payOut : GoodIn wsX3_giveUp (wsV RX3 127 RX0 yX0_payOut wsX0_payOut) := goodIn_app (goodIn_of _ (by decide +kernel)) ggX3_giveUp_X0_payOut
theorem dX3_giveUp_0 : decode cX3_giveUp 0 = .ok (.aload_n 0, 1) := by decide +kernel
theorem dX3_giveUp_1 : decode cX3_giveUp 1 = .ok (.iload_n 1, 1) := by decide +kernel
theorem dX3_giveUp_2 : decode cX3_giveUp 2 = .ok (.invokevirtual 94, 3) := by decide +kernel
theorem dX3_giveUp_5 : decode cX3_giveUp 5 = .ok (.aload_n 0, 1) := by decide +kernel
theorem dX3_giveUp_6 : decode cX3_giveUp 6 = .ok (.getfield 21, 3) := by decide +kernel
theorem dX3_giveUp_9 : decode cX3_giveUp 9 = .ok (.iload_n 1, 1) := by decide +kernel
theorem dX3_giveUp_10 : decode cX3_giveUp 10 = .ok (.invokevirtual 97, 3) := by decide +kernel
theorem dX3_giveUp_13 : decode cX3_giveUp 13 = .ok (.astore_n 2, 1) := by decide +kernel
theorem dX3_giveUp_14 : decode cX3_giveUp 14 = .ok (.aload_n 2, 1) := by decide +kernel
theorem dX3_giveUp_15 : decode cX3_giveUp 15 = .ok (.invokevirtual 116, 3) := by decide +kernel
theorem dX3_giveUp_18 : decode cX3_giveUp 18 = .ok (.ifCond .ne 13, 3) := by decide +kernel
theorem dX3_giveUp_21 : decode cX3_giveUp 21 = .ok (.new 76, 3) := by decide +kernel
theorem dX3_giveUp_24 : decode cX3_giveUp 24 = .ok (.dup, 1) := by decide +kernel
theorem dX3_giveUp_25 : decode cX3_giveUp 25 = .ok (.ldc 119, 2) := by decide +kernel
theorem dX3_giveUp_27 : decode cX3_giveUp 27 = .ok (.invokespecial 80, 3) := by decide +kernel
theorem dX3_giveUp_30 : decode cX3_giveUp 30 = .ok (.athrow, 1) := by decide +kernel
theorem dX3_giveUp_31 : decode cX3_giveUp 31 = .ok (.aload_n 0, 1) := by decide +kernel
theorem dX3_giveUp_32 : decode cX3_giveUp 32 = .ok (.getfield 12, 3) := by decide +kernel
theorem dX3_giveUp_35 : decode cX3_giveUp 35 = .ok (.aload_n 2, 1) := by decide +kernel
theorem dX3_giveUp_36 : decode cX3_giveUp 36 = .ok (.invokevirtual 121, 3) := by decide +kernel
theorem dX3_giveUp_39 : decode cX3_giveUp 39 = .ok (.istore_n 3, 1) := by decide +kernel
theorem dX3_giveUp_40 : decode cX3_giveUp 40 = .ok (.aload_n 2, 1) := by decide +kernel
theorem dX3_giveUp_41 : decode cX3_giveUp 41 = .ok (.iconst 2, 1) := by decide +kernel
theorem dX3_giveUp_42 : decode cX3_giveUp 42 = .ok (.putfield 112, 3) := by decide +kernel
theorem dX3_giveUp_45 : decode cX3_giveUp 45 = .ok (.aload_n 2, 1) := by decide +kernel
theorem dX3_giveUp_46 : decode cX3_giveUp 46 = .ok (.dup, 1) := by decide +kernel
theorem dX3_giveUp_47 : decode cX3_giveUp 47 = .ok (.getfield 124, 3) := by decide +kernel
theorem dX3_giveUp_50 : decode cX3_giveUp 50 = .ok (.iload_n 3, 1) := by decide +kernel
theorem dX3_giveUp_51 : decode cX3_giveUp 51 = .ok (.iadd, 1) := by decide +kernel
theorem dX3_giveUp_52 : decode cX3_giveUp 52 = .ok (.putfield 124, 3) := by decide +kernel
theorem dX3_giveUp_55 : decode cX3_giveUp 55 = .ok (.aload_n 0, 1) := by decide +kernel
theorem dX3_giveUp_56 : decode cX3_giveUp 56 = .ok (.getfield 21, 3) := by decide +kernel
theorem dX3_giveUp_59 : decode cX3_giveUp 59 = .ok (.iload_n 3, 1) := by decide +kernel
theorem dX3_giveUp_60 : decode cX3_giveUp 60 = .ok (.invokevirtual 127, 3) := by decide +kernel
theorem dX3_giveUp_63 : decode cX3_giveUp 63 = .ok (.iload_n 3, 1) := by decide +kernel
theorem dX3_giveUp_64 : decode cX3_giveUp 64 = .ok (.ireturn, 1) := by decide +kernel
set_option maxRecDepth 20000 in
theorem ggX3_put_X0_takeIn : GoodIn wsX3_put wsX0_takeIn := goodIn_r _ [11, 12, 13, 17, 18, 19, 20, 21, 22, 23] (by decide +kernel) (by decide +kernel)
set_option maxRecDepth 20000 in
theorem gX3_put_X0_takeIn : GoodIn wsX3_put (wsV RX3 134 RX0 yX0_takeIn wsX0_takeIn) := goodIn_app (goodIn_of _ (by decide +kernel)) ggX3_put_X0_takeIn
theorem dX3_put_0 : decode cX3_put 0 = .ok (.iload_n 1, 1) := by decide +kernel
theorem dX3_put_1 : decode cX3_put 1 = .ok (.ldc 130, 2) := by decide +kernel
theorem dX3_put_3 : decode cX3_put 3 = .ok (.if_icmp .lt 9, 3) := by decide +kernel
theorem dX3_put_6 : decode cX3_put 6 = .ok (.iload_n 1, 1) := by decide +kernel
theorem dX3_put_7 : decode cX3_put 7 = .ok (.ldc 131, 2) := by decide +kernel
theorem dX3_put_9 : decode cX3_put 9 = .ok (.if_icmp .le 13, 3) := by decide +kernel
theorem dX3_put_12 : decode cX3_put 12 = .ok (.new 39, 3) := by decide +kernel
theorem dX3_put_15 : decode cX3_put 15 = .ok (.dup, 1) := by decide +kernel
theorem dX3_put_16 : decode cX3_put 16 = .ok (.ldc 132, 2) := by decide +kernel
theorem dX3_put_18 : decode cX3_put 18 = .ok (.invokespecial 43, 3) := by decide +kernel
theorem dX3_put_21 : decode cX3_put 21 = .ok (.athrow, 1) := by decide +kernel
theorem dX3_put_22 : decode cX3_put 22 = .ok (.aload_n 0, 1) := by decide +kernel
theorem dX3_put_23 : decode cX3_put 23 = .ok (.getfield 21, 3) := by decide +kernel
theorem dX3_put_26 : decode cX3_put 26 = .ok (.iload_n 1, 1) := by decide +kernel
theorem dX3_put_27 : decode cX3_put 27 = .ok (.invokevirtual 134, 3) := by decide +kernel
theorem dX3_put_30 : decode cX3_put 30 = .ok (.aload_n 0, 1) := by decide +kernel
theorem dX3_put_31 : decode cX3_put 31 = .ok (.getfield 21, 3) := by decide +kernel
theorem dX3_put_34 : decode cX3_put 34 = .ok (.getfield 137, 3) := by decide +kernel
theorem dX3_put_37 : decode cX3_put 37 = .ok (.ireturn, 1) := by decide +kernel
set_option maxRecDepth 20000 in
theorem ggX3_price_X3_checkAge : GoodIn wsX3_price wsX3_checkAge := goodIn_ca (goodIn_r _ [5, 6, 7, 8, 9, 4, 10] (by decide +kernel) (by decide +kernel)) (goodIn_sub (fun _ h => List.mem_cons_of_mem _ (List.mem_append_right _ h)) (by decide +kernel))
set_option maxRecDepth 20000 in
theorem gX3_price_X3_checkAge : GoodIn wsX3_price (va_wsS RX3 62 yX3_checkAge wsX3_checkAge) := goodIn_app (goodIn_of _ (by decide +kernel)) ggX3_price_X3_checkAge
set_option maxRecDepth 20000 in
theorem ggX3_price_X3_checkSum : GoodIn wsX3_price wsX3_checkSum := goodIn_ca (goodIn_r _ [13, 6, 7] (by decide +kernel) (by decide +kernel)) (goodIn_sub (fun _ h => List.mem_cons_of_mem _ (List.mem_append_right _ h)) (by decide +kernel))
set_option maxRecDepth 20000 in
theorem gX3_price_X3_checkSum : GoodIn wsX3_price (va_wsS RX3 66 yX3_checkSum wsX3_checkSum) := goodIn_app (goodIn_of _ (by decide +kernel)) ggX3_price_X3_checkSum
set_option maxRecDepth 20000 in
theorem ggX3_price_X3_checkPutOff : GoodIn wsX3_price wsX3_checkPutOff := goodIn_ca (goodIn_r _ [16, 6, 7] (by decide +kernel) (by decide +kernel)) (goodIn_sub (fun _ h => List.mem_cons_of_mem _ (List.mem_append_right _ h)) (by decide +kernel))
set_option maxRecDepth 20000 in
theorem gX3_price_X3_checkPutOff : GoodIn wsX3_price (va_wsS RX3 69 yX3_checkPutOff wsX3_checkPutOff) := goodIn_app (goodIn_of _ (by decide +kernel)) ggX3_price_X3_checkPutOff
set_option maxRecDepth 20000 in
theorem ggX3_price_X1_worthNow : GoodIn wsX3_price wsX1_worthNow := goodIn_r _ [21, 22, 23, 24, 25, 20, 26, 27, 28, 29, 30, 31, 9, 4, 10, 39, 40] (by decide +kernel) (by decide +kernel)
set_option maxRecDepth 20000 in
theorem gX3_price_X1_worthNow : GoodIn wsX3_price (wsV RX3 81 RX1 yX1_worthNow wsX1_worthNow) := goodIn_app (goodIn_of _ (by decide +kernel)) ggX3_price_X1_worthNow
set_option maxRecDepth 20000 in
theorem ggX3_price_X1_priceOf : GoodIn wsX3_price wsX1_priceOf := goodIn_r _ [35, 22, 39, 40] (by decide +kernel) (by decide +kernel)
set_option maxRecDepth 20000 in
theorem gX3_price_X1_priceOf : GoodIn wsX3_price (wsV RX3 87 RX1 yX1_priceOf wsX1_priceOf) := goodIn_app (goodIn_of _ (by decide +kernel)) ggX3_price_X1_priceOf
theorem dX3_price_0 : decode cX3_price 0 = .ok (.iload_n 1, 1) := by decide +kernel
theorem dX3_price_1 : decode cX3_price 1 = .ok (.invokestatic 62, 3) := by decide +kernel
theorem dX3_price_4 : decode cX3_price 4 = .ok (.iload_n 2, 1) := by decide +kernel
theorem dX3_price_5 : decode cX3_price 5 = .ok (.invokestatic 66, 3) := by decide +kernel
theorem dX3_price_8 : decode cX3_price 8 = .ok (.iload_n 3, 1) := by decide +kernel
theorem dX3_price_9 : decode cX3_price 9 = .ok (.invokestatic 69, 3) := by decide +kernel
theorem dX3_price_12 : decode cX3_price 12 = .ok (.aload_n 0, 1) := by decide +kernel
theorem dX3_price_13 : decode cX3_price 13 = .ok (.getfield 12, 3) := by decide +kernel
theorem dX3_price_16 : decode cX3_price 16 = .ok (.iload_n 2, 1) := by decide +kernel
theorem dX3_price_17 : decode cX3_price 17 = .ok (.aload_n 0, 1) := by decide +kernel
theorem dX3_price_18 : decode cX3_price 18 = .ok (.getfield 12, 3) := by decide +kernel
theorem dX3_price_21 : decode cX3_price 21 = .ok (.iload_n 1, 1) := by decide +kernel
theorem dX3_price_22 : decode cX3_price 22 = .ok (.iload_n 3, 1) := by decide +kernel
theorem dX3_price_23 : decode cX3_price 23 = .ok (.invokevirtual 81, 3) := by decide +kernel
theorem dX3_price_26 : decode cX3_price 26 = .ok (.invokevirtual 87, 3) := by decide +kernel
theorem dX3_price_29 : decode cX3_price 29 = .ok (.ireturn, 1) := by decide +kernel
set_option maxRecDepth 20000 in
theorem ggX3_told_X3_checkWidow : GoodIn wsX3_told wsX3_checkWidow := goodIn_ca (goodIn_r _ [9, 1, 2, 4, 10, 65, 66, 67, 68, 69, 70, 71, 72, 73, 74] (by decide +kernel) (by decide +kernel)) (goodIn_sub (fun _ h => List.mem_cons_of_mem _ (List.mem_append_right _ h)) (by decide +kernel))
set_option maxRecDepth 20000 in
theorem gX3_told_X3_checkWidow : GoodIn wsX3_told (wsV RX3 94 RX3 yX3_checkWidow wsX3_checkWidow) := goodIn_app (goodIn_of _ (by decide +kernel)) ggX3_told_X3_checkWidow
set_option maxRecDepth 20000 in
theorem ggX3_told_X0_widowAt : GoodIn wsX3_told wsX0_widowAt := goodIn_r _ [15, 16, 68, 69, 70, 71, 72, 73, 74] (by decide +kernel) (by decide +kernel)
set_option maxRecDepth 20000 in
theorem gX3_told_X0_widowAt : GoodIn wsX3_told (wsV RX3 97 RX0 yX0_widowAt wsX0_widowAt) := goodIn_app (goodIn_of _ (by decide +kernel)) ggX3_told_X0_widowAt
set_option maxRecDepth 20000 in
theorem ggX3_told_X1_tellOf : GoodIn wsX3_told wsX1_tellOf := goodIn_r _ [21, 22, 23, 24, 25, 26, 27, 28, 29, 30, 31, 20, 32, 33, 34, 35, 36, 37, 38, 39, 40, 41, 42, 43, 44, 45, 46, 47, 48, 49, 50, 51, 52, 53, 8, 54, 55, 56, 57, 58, 59, 60, 61, 62, 63, 64, 75, 76, 77, 78, 79, 80, 81, 82, 83] (by decide +kernel) (by decide +kernel)
set_option maxRecDepth 20000 in
theorem gX3_told_X1_tellOf : GoodIn wsX3_told (wsV RX3 142 RX1 yX1_tellOf wsX1_tellOf) := goodIn_app (goodIn_of _ (by decide +kernel)) ggX3_told_X1_tellOf
theorem dX3_told_0 : decode cX3_told 0 = .ok (.aload_n 0, 1) := by decide +kernel
theorem dX3_told_1 : decode cX3_told 1 = .ok (.iload_n 1, 1) := by decide +kernel
theorem dX3_told_2 : decode cX3_told 2 = .ok (.invokevirtual 94, 3) := by decide +kernel
theorem dX3_told_5 : decode cX3_told 5 = .ok (.iload_n 2, 1) := by decide +kernel
theorem dX3_told_6 : decode cX3_told 6 = .ok (.ifCond .lt 9, 3) := by decide +kernel
theorem dX3_told_9 : decode cX3_told 9 = .ok (.iload_n 2, 1) := by decide +kernel
theorem dX3_told_10 : decode cX3_told 10 = .ok (.bipush 9, 2) := by decide +kernel
theorem dX3_told_12 : decode cX3_told 12 = .ok (.if_icmp .lt 13, 3) := by decide +kernel
theorem dX3_told_15 : decode cX3_told 15 = .ok (.new 32, 3) := by decide +kernel
theorem dX3_told_18 : decode cX3_told 18 = .ok (.dup, 1) := by decide +kernel
theorem dX3_told_19 : decode cX3_told 19 = .ok (.ldc 140, 2) := by decide +kernel
theorem dX3_told_21 : decode cX3_told 21 = .ok (.invokespecial 36, 3) := by decide +kernel
theorem dX3_told_24 : decode cX3_told 24 = .ok (.athrow, 1) := by decide +kernel
theorem dX3_told_25 : decode cX3_told 25 = .ok (.aload_n 0, 1) := by decide +kernel
theorem dX3_told_26 : decode cX3_told 26 = .ok (.getfield 12, 3) := by decide +kernel
theorem dX3_told_29 : decode cX3_told 29 = .ok (.aload_n 0, 1) := by decide +kernel
theorem dX3_told_30 : decode cX3_told 30 = .ok (.getfield 21, 3) := by decide +kernel
theorem dX3_told_33 : decode cX3_told 33 = .ok (.iload_n 1, 1) := by decide +kernel
theorem dX3_told_34 : decode cX3_told 34 = .ok (.invokevirtual 97, 3) := by decide +kernel
theorem dX3_told_37 : decode cX3_told 37 = .ok (.iload_n 2, 1) := by decide +kernel
theorem dX3_told_38 : decode cX3_told 38 = .ok (.invokevirtual 142, 3) := by decide +kernel
theorem dX3_told_41 : decode cX3_told 41 = .ok (.ireturn, 1) := by decide +kernel
set_option maxRecDepth 20000 in
theorem ggX3_count_X0_tell : GoodIn wsX3_count wsX0_tell := goodIn_r _ [8, 9, 10, 11, 12, 13, 14, 15, 16, 17, 7, 18, 19, 20, 21, 22, 23, 24, 25, 26, 27, 28, 29, 30, 31, 32, 33, 34, 35, 36, 37, 38, 39, 40, 41, 42, 43, 44, 45, 46, 47, 48, 49, 50, 51, 52, 53, 54, 55, 56, 57, 58, 59, 60, 61, 62, 63, 64, 65, 69, 70, 71, 72, 73, 74, 75, 76, 77, 78, 79, 80, 81, 82, 83, 84] (by decide +kernel) (by decide +kernel)
set_option maxRecDepth 20000 in
theorem gX3_count_X0_tell : GoodIn wsX3_count (wsV RX3 146 RX0 yX0_tell wsX0_tell) := goodIn_app (goodIn_of _ (by decide +kernel)) ggX3_count_X0_tell
theorem dX3_count_0 : decode cX3_count 0 = .ok (.iload_n 1, 1) := by decide +kernel
theorem dX3_count_1 : decode cX3_count 1 = .ok (.ifCond .lt 9, 3) := by decide +kernel
theorem dX3_count_4 : decode cX3_count 4 = .ok (.iload_n 1, 1) := by decide +kernel
theorem dX3_count_5 : decode cX3_count 5 = .ok (.bipush 9, 2) := by decide +kernel
theorem dX3_count_7 : decode cX3_count 7 = .ok (.if_icmp .lt 13, 3) := by decide +kernel
theorem dX3_count_10 : decode cX3_count 10 = .ok (.new 32, 3) := by decide +kernel
theorem dX3_count_13 : decode cX3_count 13 = .ok (.dup, 1) := by decide +kernel
theorem dX3_count_14 : decode cX3_count 14 = .ok (.ldc 140, 2) := by decide +kernel
theorem dX3_count_16 : decode cX3_count 16 = .ok (.invokespecial 36, 3) := by decide +kernel
theorem dX3_count_19 : decode cX3_count 19 = .ok (.athrow, 1) := by decide +kernel
theorem dX3_count_20 : decode cX3_count 20 = .ok (.aload_n 0, 1) := by decide +kernel
theorem dX3_count_21 : decode cX3_count 21 = .ok (.getfield 21, 3) := by decide +kernel
theorem dX3_count_24 : decode cX3_count 24 = .ok (.iload_n 1, 1) := by decide +kernel
theorem dX3_count_25 : decode cX3_count 25 = .ok (.invokevirtual 146, 3) := by decide +kernel
theorem dX3_count_28 : decode cX3_count 28 = .ok (.ireturn, 1) := by decide +kernel
set_option maxRecDepth 20000 in
theorem ggX3_pass_X3_checkYearsPassing : GoodIn wsX3_pass wsX3_checkYearsPassing := goodIn_ca (goodIn_r _ [6, 7, 8] (by decide +kernel) (by decide +kernel)) (goodIn_sub (fun _ h => List.mem_cons_of_mem _ (List.mem_append_right _ h)) (by decide +kernel))
set_option maxRecDepth 20000 in
theorem gX3_pass_X3_checkYearsPassing : GoodIn wsX3_pass (va_wsS RX3 154 yX3_checkYearsPassing wsX3_checkYearsPassing) := goodIn_app (goodIn_of _ (by decide +kernel)) ggX3_pass_X3_checkYearsPassing
set_option maxRecDepth 20000 in
theorem ggX3_pass_X0_passYears : GoodIn wsX3_pass wsX0_passYears := goodIn_r _ [13, 14, 15, 16, 12, 17, 18, 19, 20, 21, 22, 23, 24, 25, 26, 27, 28, 29, 30, 31, 32, 33, 34, 35, 36, 37, 38, 39, 40, 41, 42, 43, 44, 45, 46, 47, 48, 49, 50, 51, 52, 53, 54, 55, 56, 57, 58, 62, 63, 64, 65, 66, 67, 68, 69, 70, 71, 72, 73, 74, 75, 76, 77] (by decide +kernel) (by decide +kernel)
set_option maxRecDepth 20000 in
theorem gX3_pass_X0_passYears : GoodIn wsX3_pass (wsV RX3 160 RX0 yX0_passYears wsX0_passYears) := goodIn_app (goodIn_of _ (by decide +kernel)) ggX3_pass_X0_passYears
theorem dX3_pass_0 : decode cX3_pass 0 = .ok (.iload_n 1, 1) := by decide +kernel
theorem dX3_pass_1 : decode cX3_pass 1 = .ok (.invokestatic 154, 3) := by decide +kernel
theorem dX3_pass_4 : decode cX3_pass 4 = .ok (.aload_n 0, 1) := by decide +kernel
theorem dX3_pass_5 : decode cX3_pass 5 = .ok (.getfield 21, 3) := by decide +kernel
theorem dX3_pass_8 : decode cX3_pass 8 = .ok (.getfield 157, 3) := by decide +kernel
theorem dX3_pass_11 : decode cX3_pass 11 = .ok (.istore_n 2, 1) := by decide +kernel
theorem dX3_pass_12 : decode cX3_pass 12 = .ok (.aload_n 0, 1) := by decide +kernel
theorem dX3_pass_13 : decode cX3_pass 13 = .ok (.getfield 21, 3) := by decide +kernel
theorem dX3_pass_16 : decode cX3_pass 16 = .ok (.iload_n 1, 1) := by decide +kernel
theorem dX3_pass_17 : decode cX3_pass 17 = .ok (.invokevirtual 160, 3) := by decide +kernel
theorem dX3_pass_20 : decode cX3_pass 20 = .ok (.aload_n 0, 1) := by decide +kernel
theorem dX3_pass_21 : decode cX3_pass 21 = .ok (.getfield 21, 3) := by decide +kernel
theorem dX3_pass_24 : decode cX3_pass 24 = .ok (.getfield 157, 3) := by decide +kernel
theorem dX3_pass_27 : decode cX3_pass 27 = .ok (.iload_n 2, 1) := by decide +kernel
theorem dX3_pass_28 : decode cX3_pass 28 = .ok (.isub, 1) := by decide +kernel
theorem dX3_pass_29 : decode cX3_pass 29 = .ok (.ireturn, 1) := by decide +kernel
set_option maxRecDepth 20000 in
theorem ggX3_mean_X0_living : GoodIn wsX3_mean wsX0_living := goodIn_r _ [6, 7, 8, 9, 10, 5, 11, 12, 13, 14, 15, 16, 17, 18, 27, 28, 29, 30, 31, 32, 33, 34, 35, 36, 37, 38, 39, 40] (by decide +kernel) (by decide +kernel)
set_option maxRecDepth 20000 in
theorem gX3_mean_X0_living : GoodIn wsX3_mean (wsV RX3 180 RX0 yX0_living wsX0_living) := goodIn_app (goodIn_of _ (by decide +kernel)) ggX3_mean_X0_living
set_option maxRecDepth 20000 in
theorem ggX3_mean_X0_agesOfLiving : GoodIn wsX3_mean wsX0_agesOfLiving := goodIn_r _ [22, 7, 23, 8, 9, 10, 5, 11, 12, 13, 14, 15, 16, 17, 18, 27, 28, 29, 30, 31, 32, 33, 34, 35, 36, 37, 38, 39, 40] (by decide +kernel) (by decide +kernel)
set_option maxRecDepth 20000 in
theorem gX3_mean_X0_agesOfLiving : GoodIn wsX3_mean (wsV RX3 184 RX0 yX0_agesOfLiving wsX0_agesOfLiving) := goodIn_app (goodIn_of _ (by decide +kernel)) ggX3_mean_X0_agesOfLiving
theorem dX3_mean_0 : decode cX3_mean 0 = .ok (.aload_n 0, 1) := by decide +kernel
theorem dX3_mean_1 : decode cX3_mean 1 = .ok (.getfield 21, 3) := by decide +kernel
theorem dX3_mean_4 : decode cX3_mean 4 = .ok (.invokevirtual 180, 3) := by decide +kernel
theorem dX3_mean_7 : decode cX3_mean 7 = .ok (.istore_n 1, 1) := by decide +kernel
theorem dX3_mean_8 : decode cX3_mean 8 = .ok (.iload_n 1, 1) := by decide +kernel
theorem dX3_mean_9 : decode cX3_mean 9 = .ok (.ifCond .ne 7, 3) := by decide +kernel
theorem dX3_mean_12 : decode cX3_mean 12 = .ok (.dconst 0, 1) := by decide +kernel
theorem dX3_mean_13 : decode cX3_mean 13 = .ok (.goto 14, 3) := by decide +kernel
theorem dX3_mean_16 : decode cX3_mean 16 = .ok (.aload_n 0, 1) := by decide +kernel
theorem dX3_mean_17 : decode cX3_mean 17 = .ok (.getfield 21, 3) := by decide +kernel
theorem dX3_mean_20 : decode cX3_mean 20 = .ok (.invokevirtual 184, 3) := by decide +kernel
theorem dX3_mean_23 : decode cX3_mean 23 = .ok (.i2d, 1) := by decide +kernel
theorem dX3_mean_24 : decode cX3_mean 24 = .ok (.iload_n 1, 1) := by decide +kernel
theorem dX3_mean_25 : decode cX3_mean 25 = .ok (.i2d, 1) := by decide +kernel
theorem dX3_mean_26 : decode cX3_mean 26 = .ok (.ddiv, 1) := by decide +kernel
theorem dX3_mean_27 : decode cX3_mean 27 = .ok (.dreturn, 1) := by decide +kernel
theorem dX3_isAge_0 : decode cX3_isAge 0 = .ok (.iload_n 0, 1) := by decide +kernel
theorem dX3_isAge_1 : decode cX3_isAge 1 = .ok (.bipush 50, 2) := by decide +kernel
theorem dX3_isAge_3 : decode cX3_isAge 3 = .ok (.if_icmp .lt 13, 3) := by decide +kernel
theorem dX3_isAge_6 : decode cX3_isAge 6 = .ok (.iload_n 0, 1) := by decide +kernel
theorem dX3_isAge_7 : decode cX3_isAge 7 = .ok (.bipush 99, 2) := by decide +kernel
theorem dX3_isAge_9 : decode cX3_isAge 9 = .ok (.if_icmp .gt 7, 3) := by decide +kernel
theorem dX3_isAge_12 : decode cX3_isAge 12 = .ok (.iconst 1, 1) := by decide +kernel
theorem dX3_isAge_13 : decode cX3_isAge 13 = .ok (.goto 4, 3) := by decide +kernel
theorem dX3_isAge_16 : decode cX3_isAge 16 = .ok (.iconst 0, 1) := by decide +kernel
theorem dX3_isAge_17 : decode cX3_isAge 17 = .ok (.ireturn, 1) := by decide +kernel
set_option maxRecDepth 20000 in
theorem ggX3_checkAge_X3_isAge : GoodIn wsX3_checkAge wsX3_isAge := goodIn_r _ [6] (by decide +kernel) (by decide +kernel)
set_option maxRecDepth 20000 in
theorem gX3_checkAge_X3_isAge : GoodIn wsX3_checkAge (va_wsS RX3 28 yX3_isAge wsX3_isAge) := goodIn_app (goodIn_of _ (by decide +kernel)) ggX3_checkAge_X3_isAge
theorem dX3_checkAge_0 : decode cX3_checkAge 0 = .ok (.iload_n 0, 1) := by decide +kernel
theorem dX3_checkAge_1 : decode cX3_checkAge 1 = .ok (.invokestatic 28, 3) := by decide +kernel
theorem dX3_checkAge_4 : decode cX3_checkAge 4 = .ok (.ifCond .ne 13, 3) := by decide +kernel
theorem dX3_checkAge_7 : decode cX3_checkAge 7 = .ok (.new 39, 3) := by decide +kernel
theorem dX3_checkAge_10 : decode cX3_checkAge 10 = .ok (.dup, 1) := by decide +kernel
theorem dX3_checkAge_11 : decode cX3_checkAge 11 = .ok (.ldc 34, 2) := by decide +kernel
theorem dX3_checkAge_13 : decode cX3_checkAge 13 = .ok (.invokespecial 43, 3) := by decide +kernel
theorem dX3_checkAge_16 : decode cX3_checkAge 16 = .ok (.athrow, 1) := by decide +kernel
theorem dX3_checkAge_17 : decode cX3_checkAge 17 = .ok (.return_, 1) := by decide +kernel
theorem dX3_checkSum_0 : decode cX3_checkSum 0 = .ok (.iload_n 0, 1) := by decide +kernel
theorem dX3_checkSum_1 : decode cX3_checkSum 1 = .ok (.iconst 1, 1) := by decide +kernel
theorem dX3_checkSum_2 : decode cX3_checkSum 2 = .ok (.if_icmp .lt 10, 3) := by decide +kernel
theorem dX3_checkSum_5 : decode cX3_checkSum 5 = .ok (.iload_n 0, 1) := by decide +kernel
theorem dX3_checkSum_6 : decode cX3_checkSum 6 = .ok (.sipush 999, 3) := by decide +kernel
theorem dX3_checkSum_9 : decode cX3_checkSum 9 = .ok (.if_icmp .le 13, 3) := by decide +kernel
theorem dX3_checkSum_12 : decode cX3_checkSum 12 = .ok (.new 39, 3) := by decide +kernel
theorem dX3_checkSum_15 : decode cX3_checkSum 15 = .ok (.dup, 1) := by decide +kernel
theorem dX3_checkSum_16 : decode cX3_checkSum 16 = .ok (.ldc 194, 2) := by decide +kernel
theorem dX3_checkSum_18 : decode cX3_checkSum 18 = .ok (.invokespecial 43, 3) := by decide +kernel
theorem dX3_checkSum_21 : decode cX3_checkSum 21 = .ok (.athrow, 1) := by decide +kernel
theorem dX3_checkSum_22 : decode cX3_checkSum 22 = .ok (.return_, 1) := by decide +kernel
theorem dX3_checkPutOff_0 : decode cX3_checkPutOff 0 = .ok (.iload_n 0, 1) := by decide +kernel
theorem dX3_checkPutOff_1 : decode cX3_checkPutOff 1 = .ok (.ifCond .lt 9, 3) := by decide +kernel
theorem dX3_checkPutOff_4 : decode cX3_checkPutOff 4 = .ok (.iload_n 0, 1) := by decide +kernel
theorem dX3_checkPutOff_5 : decode cX3_checkPutOff 5 = .ok (.bipush 30, 2) := by decide +kernel
theorem dX3_checkPutOff_7 : decode cX3_checkPutOff 7 = .ok (.if_icmp .le 13, 3) := by decide +kernel
theorem dX3_checkPutOff_10 : decode cX3_checkPutOff 10 = .ok (.new 39, 3) := by decide +kernel
theorem dX3_checkPutOff_13 : decode cX3_checkPutOff 13 = .ok (.dup, 1) := by decide +kernel
theorem dX3_checkPutOff_14 : decode cX3_checkPutOff 14 = .ok (.ldc 196, 2) := by decide +kernel
theorem dX3_checkPutOff_16 : decode cX3_checkPutOff 16 = .ok (.invokespecial 43, 3) := by decide +kernel
theorem dX3_checkPutOff_19 : decode cX3_checkPutOff 19 = .ok (.athrow, 1) := by decide +kernel
theorem dX3_checkPutOff_20 : decode cX3_checkPutOff 20 = .ok (.return_, 1) := by decide +kernel
theorem dX3_checkYearsPassing_0 : decode cX3_checkYearsPassing 0 = .ok (.iload_n 0, 1) := by decide +kernel
theorem dX3_checkYearsPassing_1 : decode cX3_checkYearsPassing 1 = .ok (.iconst 1, 1) := by decide +kernel
theorem dX3_checkYearsPassing_2 : decode cX3_checkYearsPassing 2 = .ok (.if_icmp .lt 9, 3) := by decide +kernel
theorem dX3_checkYearsPassing_5 : decode cX3_checkYearsPassing 5 = .ok (.iload_n 0, 1) := by decide +kernel
theorem dX3_checkYearsPassing_6 : decode cX3_checkYearsPassing 6 = .ok (.bipush 50, 2) := by decide +kernel
theorem dX3_checkYearsPassing_8 : decode cX3_checkYearsPassing 8 = .ok (.if_icmp .le 13, 3) := by decide +kernel
theorem dX3_checkYearsPassing_11 : decode cX3_checkYearsPassing 11 = .ok (.new 39, 3) := by decide +kernel
theorem dX3_checkYearsPassing_14 : decode cX3_checkYearsPassing 14 = .ok (.dup, 1) := by decide +kernel
theorem dX3_checkYearsPassing_15 : decode cX3_checkYearsPassing 15 = .ok (.ldc 198, 2) := by decide +kernel
theorem dX3_checkYearsPassing_17 : decode cX3_checkYearsPassing 17 = .ok (.invokespecial 43, 3) := by decide +kernel
theorem dX3_checkYearsPassing_20 : decode cX3_checkYearsPassing 20 = .ok (.athrow, 1) := by decide +kernel
theorem dX3_checkYearsPassing_21 : decode cX3_checkYearsPassing 21 = .ok (.return_, 1) := by decide +kernel
theorem dX3_checkWidow_0 : decode cX3_checkWidow 0 = .ok (.iload_n 1, 1) := by decide +kernel
theorem dX3_checkWidow_1 : decode cX3_checkWidow 1 = .ok (.ifCond .lt 14, 3) := by decide +kernel
theorem dX3_checkWidow_4 : decode cX3_checkWidow 4 = .ok (.iload_n 1, 1) := by decide +kernel
theorem dX3_checkWidow_5 : decode cX3_checkWidow 5 = .ok (.aload_n 0, 1) := by decide +kernel
theorem dX3_checkWidow_6 : decode cX3_checkWidow 6 = .ok (.getfield 21, 3) := by decide +kernel
theorem dX3_checkWidow_9 : decode cX3_checkWidow 9 = .ok (.getfield 191, 3) := by decide +kernel
theorem dX3_checkWidow_12 : decode cX3_checkWidow 12 = .ok (.if_icmp .lt 13, 3) := by decide +kernel
theorem dX3_checkWidow_15 : decode cX3_checkWidow 15 = .ok (.new 32, 3) := by decide +kernel
theorem dX3_checkWidow_18 : decode cX3_checkWidow 18 = .ok (.dup, 1) := by decide +kernel
theorem dX3_checkWidow_19 : decode cX3_checkWidow 19 = .ok (.ldc 200, 2) := by decide +kernel
theorem dX3_checkWidow_21 : decode cX3_checkWidow 21 = .ok (.invokespecial 36, 3) := by decide +kernel
theorem dX3_checkWidow_24 : decode cX3_checkWidow 24 = .ok (.athrow, 1) := by decide +kernel
theorem dX3_checkWidow_25 : decode cX3_checkWidow 25 = .ok (.return_, 1) := by decide +kernel
theorem dX4_init_0 : decode cX4_init 0 = .ok (.aload_n 0, 1) := by decide +kernel
theorem dX4_init_1 : decode cX4_init 1 = .ok (.invokespecial 1, 3) := by decide +kernel
theorem dX4_init_4 : decode cX4_init 4 = .ok (.aload_n 0, 1) := by decide +kernel
theorem dX4_init_5 : decode cX4_init 5 = .ok (.iconst 3, 1) := by decide +kernel
theorem dX4_init_6 : decode cX4_init 6 = .ok (.newarray .int, 2) := by decide +kernel
theorem dX4_init_8 : decode cX4_init 8 = .ok (.dup, 1) := by decide +kernel
theorem dX4_init_9 : decode cX4_init 9 = .ok (.iconst 0, 1) := by decide +kernel
theorem dX4_init_10 : decode cX4_init 10 = .ok (.bipush 40, 2) := by decide +kernel
theorem dX4_init_12 : decode cX4_init 12 = .ok (.iastore, 1) := by decide +kernel
theorem dX4_init_13 : decode cX4_init 13 = .ok (.dup, 1) := by decide +kernel
theorem dX4_init_14 : decode cX4_init 14 = .ok (.iconst 1, 1) := by decide +kernel
theorem dX4_init_15 : decode cX4_init 15 = .ok (.iconst 5, 1) := by decide +kernel
theorem dX4_init_16 : decode cX4_init 16 = .ok (.iastore, 1) := by decide +kernel
theorem dX4_init_17 : decode cX4_init 17 = .ok (.dup, 1) := by decide +kernel
theorem dX4_init_18 : decode cX4_init 18 = .ok (.iconst 2, 1) := by decide +kernel
theorem dX4_init_19 : decode cX4_init 19 = .ok (.bipush 10, 2) := by decide +kernel
theorem dX4_init_21 : decode cX4_init 21 = .ok (.iastore, 1) := by decide +kernel
theorem dX4_init_22 : decode cX4_init 22 = .ok (.putfield 7, 3) := by decide +kernel
theorem dX4_init_25 : decode cX4_init 25 = .ok (.aload_n 0, 1) := by decide +kernel
theorem dX4_init_26 : decode cX4_init 26 = .ok (.bipush 50, 2) := by decide +kernel
theorem dX4_init_28 : decode cX4_init 28 = .ok (.newarray .int, 2) := by decide +kernel
theorem dX4_init_30 : decode cX4_init 30 = .ok (.putfield 13, 3) := by decide +kernel
theorem dX4_init_33 : decode cX4_init 33 = .ok (.aload_n 0, 1) := by decide +kernel
theorem dX4_init_34 : decode cX4_init 34 = .ok (.iconst 0, 1) := by decide +kernel
theorem dX4_init_35 : decode cX4_init 35 = .ok (.anewarray 16, 3) := by decide +kernel
theorem dX4_init_38 : decode cX4_init 38 = .ok (.putfield 18, 3) := by decide +kernel
theorem dX4_init_41 : decode cX4_init 41 = .ok (.iconst 0, 1) := by decide +kernel
theorem dX4_init_42 : decode cX4_init 42 = .ok (.istore_n 1, 1) := by decide +kernel
theorem dX4_init_43 : decode cX4_init 43 = .ok (.iload_n 1, 1) := by decide +kernel
theorem dX4_init_44 : decode cX4_init 44 = .ok (.bipush 50, 2) := by decide +kernel
theorem dX4_init_46 : decode cX4_init 46 = .ok (.if_icmp .ge 22, 3) := by decide +kernel
theorem dX4_init_49 : decode cX4_init 49 = .ok (.aload_n 0, 1) := by decide +kernel
theorem dX4_init_50 : decode cX4_init 50 = .ok (.getfield 13, 3) := by decide +kernel
theorem dX4_init_53 : decode cX4_init 53 = .ok (.iload_n 1, 1) := by decide +kernel
theorem dX4_init_54 : decode cX4_init 54 = .ok (.bipush 10, 2) := by decide +kernel
theorem dX4_init_56 : decode cX4_init 56 = .ok (.bipush 8, 2) := by decide +kernel
theorem dX4_init_58 : decode cX4_init 58 = .ok (.iload_n 1, 1) := by decide +kernel
theorem dX4_init_59 : decode cX4_init 59 = .ok (.imul, 1) := by decide +kernel
theorem dX4_init_60 : decode cX4_init 60 = .ok (.iadd, 1) := by decide +kernel
theorem dX4_init_61 : decode cX4_init 61 = .ok (.iastore, 1) := by decide +kernel
theorem dX4_init_62 : decode cX4_init 62 = .ok (.iinc 1 1, 3) := by decide +kernel
theorem dX4_init_65 : decode cX4_init 65 = .ok (.goto (-22), 3) := by decide +kernel
theorem dX4_init_68 : decode cX4_init 68 = .ok (.return_, 1) := by decide +kernel
theorem dX4_worth_0 : decode cX4_worth 0 = .ok (.iload_n 1, 1) := by decide +kernel
theorem dX4_worth_1 : decode cX4_worth 1 = .ok (.iload_n 2, 1) := by decide +kernel
theorem dX4_worth_2 : decode cX4_worth 2 = .ok (.iadd, 1) := by decide +kernel
theorem dX4_worth_3 : decode cX4_worth 3 = .ok (.istore_n 3, 1) := by decide +kernel
theorem dX4_worth_4 : decode cX4_worth 4 = .ok (.iload_n 3, 1) := by decide +kernel
theorem dX4_worth_5 : decode cX4_worth 5 = .ok (.bipush 99, 2) := by decide +kernel
theorem dX4_worth_7 : decode cX4_worth 7 = .ok (.if_icmp .le 5, 3) := by decide +kernel
theorem dX4_worth_10 : decode cX4_worth 10 = .ok (.iconst 0, 1) := by decide +kernel
theorem dX4_worth_11 : decode cX4_worth 11 = .ok (.ireturn, 1) := by decide +kernel
theorem dX4_worth_12 : decode cX4_worth 12 = .ok (.iconst 0, 1) := by decide +kernel
theorem dX4_worth_13 : decode cX4_worth 13 = .ok (.istore 4, 2) := by decide +kernel
theorem dX4_worth_15 : decode cX4_worth 15 = .ok (.bipush 99, 2) := by decide +kernel
theorem dX4_worth_17 : decode cX4_worth 17 = .ok (.istore 5, 2) := by decide +kernel
theorem dX4_worth_19 : decode cX4_worth 19 = .ok (.iload 5, 2) := by decide +kernel
theorem dX4_worth_21 : decode cX4_worth 21 = .ok (.iload_n 3, 1) := by decide +kernel
theorem dX4_worth_22 : decode cX4_worth 22 = .ok (.if_icmp .lt 43, 3) := by decide +kernel
theorem dX4_worth_25 : decode cX4_worth 25 = .ok (.sipush 1000, 3) := by decide +kernel
theorem dX4_worth_28 : decode cX4_worth 28 = .ok (.aload_n 0, 1) := by decide +kernel
theorem dX4_worth_29 : decode cX4_worth 29 = .ok (.getfield 13, 3) := by decide +kernel
theorem dX4_worth_32 : decode cX4_worth 32 = .ok (.iload 5, 2) := by decide +kernel
theorem dX4_worth_34 : decode cX4_worth 34 = .ok (.bipush 50, 2) := by decide +kernel
theorem dX4_worth_36 : decode cX4_worth 36 = .ok (.isub, 1) := by decide +kernel
theorem dX4_worth_37 : decode cX4_worth 37 = .ok (.iaload, 1) := by decide +kernel
theorem dX4_worth_38 : decode cX4_worth 38 = .ok (.isub, 1) := by decide +kernel
theorem dX4_worth_39 : decode cX4_worth 39 = .ok (.sipush 1000, 3) := by decide +kernel
theorem dX4_worth_42 : decode cX4_worth 42 = .ok (.iload 4, 2) := by decide +kernel
theorem dX4_worth_44 : decode cX4_worth 44 = .ok (.iadd, 1) := by decide +kernel
theorem dX4_worth_45 : decode cX4_worth 45 = .ok (.imul, 1) := by decide +kernel
theorem dX4_worth_46 : decode cX4_worth 46 = .ok (.sipush 1000, 3) := by decide +kernel
theorem dX4_worth_49 : decode cX4_worth 49 = .ok (.aload_n 0, 1) := by decide +kernel
theorem dX4_worth_50 : decode cX4_worth 50 = .ok (.getfield 7, 3) := by decide +kernel
theorem dX4_worth_53 : decode cX4_worth 53 = .ok (.iconst 0, 1) := by decide +kernel
theorem dX4_worth_54 : decode cX4_worth 54 = .ok (.iaload, 1) := by decide +kernel
theorem dX4_worth_55 : decode cX4_worth 55 = .ok (.iadd, 1) := by decide +kernel
theorem dX4_worth_56 : decode cX4_worth 56 = .ok (.idiv, 1) := by decide +kernel
theorem dX4_worth_57 : decode cX4_worth 57 = .ok (.istore 4, 2) := by decide +kernel
theorem dX4_worth_59 : decode cX4_worth 59 = .ok (.iinc 5 (-1), 3) := by decide +kernel
theorem dX4_worth_62 : decode cX4_worth 62 = .ok (.goto (-43), 3) := by decide +kernel
theorem dX4_worth_65 : decode cX4_worth 65 = .ok (.iload_n 3, 1) := by decide +kernel
theorem dX4_worth_66 : decode cX4_worth 66 = .ok (.iconst 1, 1) := by decide +kernel
theorem dX4_worth_67 : decode cX4_worth 67 = .ok (.isub, 1) := by decide +kernel
theorem dX4_worth_68 : decode cX4_worth 68 = .ok (.istore 5, 2) := by decide +kernel
theorem dX4_worth_70 : decode cX4_worth 70 = .ok (.iload 5, 2) := by decide +kernel
theorem dX4_worth_72 : decode cX4_worth 72 = .ok (.iload_n 1, 1) := by decide +kernel
theorem dX4_worth_73 : decode cX4_worth 73 = .ok (.if_icmp .lt 39, 3) := by decide +kernel
theorem dX4_worth_76 : decode cX4_worth 76 = .ok (.sipush 1000, 3) := by decide +kernel
theorem dX4_worth_79 : decode cX4_worth 79 = .ok (.aload_n 0, 1) := by decide +kernel
theorem dX4_worth_80 : decode cX4_worth 80 = .ok (.getfield 13, 3) := by decide +kernel
theorem dX4_worth_83 : decode cX4_worth 83 = .ok (.iload 5, 2) := by decide +kernel
theorem dX4_worth_85 : decode cX4_worth 85 = .ok (.bipush 50, 2) := by decide +kernel
theorem dX4_worth_87 : decode cX4_worth 87 = .ok (.isub, 1) := by decide +kernel
theorem dX4_worth_88 : decode cX4_worth 88 = .ok (.iaload, 1) := by decide +kernel
theorem dX4_worth_89 : decode cX4_worth 89 = .ok (.isub, 1) := by decide +kernel
theorem dX4_worth_90 : decode cX4_worth 90 = .ok (.iload 4, 2) := by decide +kernel
theorem dX4_worth_92 : decode cX4_worth 92 = .ok (.imul, 1) := by decide +kernel
theorem dX4_worth_93 : decode cX4_worth 93 = .ok (.sipush 1000, 3) := by decide +kernel
theorem dX4_worth_96 : decode cX4_worth 96 = .ok (.aload_n 0, 1) := by decide +kernel
theorem dX4_worth_97 : decode cX4_worth 97 = .ok (.getfield 7, 3) := by decide +kernel
theorem dX4_worth_100 : decode cX4_worth 100 = .ok (.iconst 0, 1) := by decide +kernel
theorem dX4_worth_101 : decode cX4_worth 101 = .ok (.iaload, 1) := by decide +kernel
theorem dX4_worth_102 : decode cX4_worth 102 = .ok (.iadd, 1) := by decide +kernel
theorem dX4_worth_103 : decode cX4_worth 103 = .ok (.idiv, 1) := by decide +kernel
theorem dX4_worth_104 : decode cX4_worth 104 = .ok (.istore 4, 2) := by decide +kernel
theorem dX4_worth_106 : decode cX4_worth 106 = .ok (.iinc 5 (-1), 3) := by decide +kernel
theorem dX4_worth_109 : decode cX4_worth 109 = .ok (.goto (-39), 3) := by decide +kernel
theorem dX4_worth_112 : decode cX4_worth 112 = .ok (.iload 4, 2) := by decide +kernel
theorem dX4_worth_114 : decode cX4_worth 114 = .ok (.ireturn, 1) := by decide +kernel
set_option maxRecDepth 20000 in
theorem ggX4_price_X4_worth : GoodIn wsX4_price wsX4_worth := goodIn_r _ [6, 7, 1, 8, 9, 10, 11, 12, 13] (by decide +kernel) (by decide +kernel)
set_option maxRecDepth 20000 in
theorem gX4_price_X4_worth : GoodIn wsX4_price (wsV RX4 42 RX4 yX4_worth wsX4_worth) := goodIn_app (goodIn_of _ (by decide +kernel)) ggX4_price_X4_worth
theorem dX4_price_0 : decode cX4_price 0 = .ok (.aload_n 0, 1) := by decide +kernel
theorem dX4_price_1 : decode cX4_price 1 = .ok (.iload_n 1, 1) := by decide +kernel
theorem dX4_price_2 : decode cX4_price 2 = .ok (.iload_n 3, 1) := by decide +kernel
theorem dX4_price_3 : decode cX4_price 3 = .ok (.invokevirtual 42, 3) := by decide +kernel
theorem dX4_price_6 : decode cX4_price 6 = .ok (.istore 4, 2) := by decide +kernel
theorem dX4_price_8 : decode cX4_price 8 = .ok (.iload_n 2, 1) := by decide +kernel
theorem dX4_price_9 : decode cX4_price 9 = .ok (.iload 4, 2) := by decide +kernel
theorem dX4_price_11 : decode cX4_price 11 = .ok (.imul, 1) := by decide +kernel
theorem dX4_price_12 : decode cX4_price 12 = .ok (.sipush 1000, 3) := by decide +kernel
theorem dX4_price_15 : decode cX4_price 15 = .ok (.idiv, 1) := by decide +kernel
theorem dX4_price_16 : decode cX4_price 16 = .ok (.istore 5, 2) := by decide +kernel
theorem dX4_price_18 : decode cX4_price 18 = .ok (.iload 5, 2) := by decide +kernel
theorem dX4_price_20 : decode cX4_price 20 = .ok (.iload 5, 2) := by decide +kernel
theorem dX4_price_22 : decode cX4_price 22 = .ok (.aload_n 0, 1) := by decide +kernel
theorem dX4_price_23 : decode cX4_price 23 = .ok (.getfield 7, 3) := by decide +kernel
theorem dX4_price_26 : decode cX4_price 26 = .ok (.iconst 1, 1) := by decide +kernel
theorem dX4_price_27 : decode cX4_price 27 = .ok (.iaload, 1) := by decide +kernel
theorem dX4_price_28 : decode cX4_price 28 = .ok (.imul, 1) := by decide +kernel
theorem dX4_price_29 : decode cX4_price 29 = .ok (.bipush 100, 2) := by decide +kernel
theorem dX4_price_31 : decode cX4_price 31 = .ok (.idiv, 1) := by decide +kernel
theorem dX4_price_32 : decode cX4_price 32 = .ok (.iadd, 1) := by decide +kernel
theorem dX4_price_33 : decode cX4_price 33 = .ok (.istore 5, 2) := by decide +kernel
theorem dX4_price_35 : decode cX4_price 35 = .ok (.iload 4, 2) := by decide +kernel
theorem dX4_price_37 : decode cX4_price 37 = .ok (.ifCond .ne 7, 3) := by decide +kernel
theorem dX4_price_40 : decode cX4_price 40 = .ok (.iconst 0, 1) := by decide +kernel
theorem dX4_price_41 : decode cX4_price 41 = .ok (.goto 15, 3) := by decide +kernel
theorem dX4_price_44 : decode cX4_price 44 = .ok (.iload 5, 2) := by decide +kernel
theorem dX4_price_46 : decode cX4_price 46 = .ok (.iconst 1, 1) := by decide +kernel
theorem dX4_price_47 : decode cX4_price 47 = .ok (.if_icmp .ge 7, 3) := by decide +kernel
theorem dX4_price_50 : decode cX4_price 50 = .ok (.iconst 1, 1) := by decide +kernel
theorem dX4_price_51 : decode cX4_price 51 = .ok (.goto 5, 3) := by decide +kernel
theorem dX4_price_54 : decode cX4_price 54 = .ok (.iload 5, 2) := by decide +kernel
theorem dX4_price_56 : decode cX4_price 56 = .ok (.ireturn, 1) := by decide +kernel
set_option maxRecDepth 20000 in
theorem ggX4_kept_X4_worth : GoodIn wsX4_kept wsX4_worth := goodIn_r _ [9, 10, 11, 19, 20, 21, 22, 23, 24] (by decide +kernel) (by decide +kernel)
set_option maxRecDepth 20000 in
theorem gX4_kept_X4_worth : GoodIn wsX4_kept (wsV RX4 42 RX4 yX4_worth wsX4_worth) := goodIn_app (goodIn_of _ (by decide +kernel)) ggX4_kept_X4_worth
theorem dX4_kept_0 : decode cX4_kept 0 = .ok (.aload_n 1, 1) := by decide +kernel
theorem dX4_kept_1 : decode cX4_kept 1 = .ok (.getfield 46, 3) := by decide +kernel
theorem dX4_kept_4 : decode cX4_kept 4 = .ok (.ifCond .ne 27, 3) := by decide +kernel
theorem dX4_kept_7 : decode cX4_kept 7 = .ok (.aload_n 1, 1) := by decide +kernel
theorem dX4_kept_8 : decode cX4_kept 8 = .ok (.getfield 49, 3) := by decide +kernel
theorem dX4_kept_11 : decode cX4_kept 11 = .ok (.aload_n 0, 1) := by decide +kernel
theorem dX4_kept_12 : decode cX4_kept 12 = .ok (.aload_n 1, 1) := by decide +kernel
theorem dX4_kept_13 : decode cX4_kept 13 = .ok (.getfield 52, 3) := by decide +kernel
theorem dX4_kept_16 : decode cX4_kept 16 = .ok (.aload_n 1, 1) := by decide +kernel
theorem dX4_kept_17 : decode cX4_kept 17 = .ok (.getfield 55, 3) := by decide +kernel
theorem dX4_kept_20 : decode cX4_kept 20 = .ok (.invokevirtual 42, 3) := by decide +kernel
theorem dX4_kept_23 : decode cX4_kept 23 = .ok (.imul, 1) := by decide +kernel
theorem dX4_kept_24 : decode cX4_kept 24 = .ok (.sipush 1000, 3) := by decide +kernel
theorem dX4_kept_27 : decode cX4_kept 27 = .ok (.idiv, 1) := by decide +kernel
theorem dX4_kept_28 : decode cX4_kept 28 = .ok (.goto 4, 3) := by decide +kernel
theorem dX4_kept_31 : decode cX4_kept 31 = .ok (.iconst 0, 1) := by decide +kernel
theorem dX4_kept_32 : decode cX4_kept 32 = .ok (.ireturn, 1) := by decide +kernel
set_option maxRecDepth 20000 in
theorem ggX4_back_X4_kept : GoodIn wsX4_back wsX4_kept := goodIn_r _ [8, 1, 9, 10, 11, 12, 13, 14, 7, 15, 16, 3, 17, 18, 19, 20, 21, 22, 23, 24, 25, 26, 27, 28, 29] (by decide +kernel) (by decide +kernel)
set_option maxRecDepth 20000 in
theorem gX4_back_X4_kept : GoodIn wsX4_back (wsV RX4 58 RX4 yX4_kept wsX4_kept) := goodIn_app (goodIn_of _ (by decide +kernel)) ggX4_back_X4_kept
theorem dX4_back_0 : decode cX4_back 0 = .ok (.aload_n 0, 1) := by decide +kernel
theorem dX4_back_1 : decode cX4_back 1 = .ok (.aload_n 1, 1) := by decide +kernel

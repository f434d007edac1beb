set_option maxRecDepth 20000 in
theorem gX3_price_X3_checkPutOff : GoodIn wsX3_price (va_wsS RX3 69 yX3_checkPutOff wsX3_checkPutOff) := goodIn_app (goodIn_of _ (by decide +kernel)) ggX3_price_X3_checkPutOff
set_option maxRecDepth 20000 in
theorem ggX3_price_X1_worthNow : GoodIn wsX3_price wsX1_worthNow := goodIn_r _ [21, 22, 23, 24, 25, 20, 26, 27, 28, 29, 30, 31, 9, 4, 10, 39, 40] (by decide +kernel) (by decide +kernel)
set_option maxRecDepth 20000 in
theorem gX3_price_X1_worthNow : GoodIn wsX3_price (wsV RX3 81 RX1 yX1_worthNow wsX1_worthNow) := goodIn_app (goodIn_of _ (by decide +kernel)) ggX3_price_X1_worthNow
set_option maxRecDepth 20000 in
theorem ggX3_price_X1_priceOf : GoodIn wsX3_price wsX1_priceOf := goodIn_r _ [35, 22, 39, 40] (by decide +kernel) (by decide +kernel)
set_option maxRecDepth 20000 in
theorem gX3_price_X1_priceOf : GoodIn wsX3_price (wsV RX3 87 RX1 yX1_priceOf wsX1_priceOf) := goodIn_app (goodIn_of _ (by decide +kernel)) ggX3_price_X1_priceOf
theorem dX3_price_0 : decode cX3_price 0 = .ok (.iload_n 1, 1) := by decide +kernel
theorem dX3_price_1 : decode cX3_price 1 = .ok (.invokestatic 62, 3) := by decide +kernel
theorem dX3_price_4 : decode cX3_price 4 = .ok (.iload_n 2, 1) := by decide +kernel
theorem dX3_price_5 : decode cX3_price 5 = .ok (.invokestatic 66, 3) := by decide +kernel
theorem dX3_price_8 : decode cX3_price 8 = .ok (.iload_n 3, 1) := by decide +kernel
theorem dX3_price_9 : decode cX3_price 9 = .ok (.invokestatic 69, 3) := by decide +kernel
theorem dX3_price_12 : decode cX3_price 12 = .ok (.aload_n 0, 1) := by decide +kernel
theorem dX3_price_13 : decode cX3_price 13 = .ok (.getfield 12, 3) := by decide +kernel
theorem dX3_price_16 : decode cX3_price 16 = .ok (.iload_n 2, 1) := by decide +kernel
theorem dX3_price_17 : decode cX3_price 17 = .ok (.aload_n 0, 1) := by decide +kernel
theorem dX3_price_18 : decode cX3_price 18 = .ok (.getfield 12, 3) := by decide +kernel
theorem dX3_price_21 : decode cX3_price 21 = .ok (.iload_n 1, 1) := by decide +kernel
theorem dX3_price_22 : decode cX3_price 22 = .ok (.iload_n 3, 1) := by decide +kernel
theorem dX3_price_23 : decode cX3_price 23 = .ok (.invokevirtual 81, 3) := by decide +kernel
theorem dX3_price_26 : decode cX3_price 26 = .ok (.invokevirtual 87, 3) := by decide +kernel
theorem dX3_price_29 : decode cX3_price 29 = .ok (.ireturn, 1) := by decide +kernel
set_option maxRecDepth 20000 in
theorem ggX3_told_X3_checkWidow : GoodIn wsX3_told wsX3_checkWidow := goodIn_ca (goodIn_r _ [9, 1, 2, 4, 10, 65, 66, 67, 68, 69, 70, 71, 72, 73, 74] (by decide +kernel) (by decide +kernel)) (goodIn_sub (fun _ h => List.mem_cons_of_mem _ (List.mem_append_right _ h)) (by decide +kernel))
set_option maxRecDepth 20000 in
theorem gX3_told_X3_checkWidow : GoodIn wsX3_told (wsV RX3 94 RX3 yX3_checkWidow wsX3_checkWidow) := goodIn_app (goodIn_of _ (by decide +kernel)) ggX3_told_X3_checkWidow
set_option maxRecDepth 20000 in
theorem ggX3_told_X0_widowAt : GoodIn wsX3_told wsX0_widowAt := goodIn_r _ [15, 16, 68, 69, 70, 71, 72, 73, 74] (by decide +kernel) (by decide +kernel)
set_option maxRecDepth 20000 in
theorem gX3_told_X0_widowAt : GoodIn wsX3_told (wsV RX3 97 RX0 yX0_widowAt wsX0_widowAt) := goodIn_app (goodIn_of _ (by decide +kernel)) ggX3_told_X0_widowAt
set_option maxRecDepth 20000 in
theorem ggX3_told_X1_tellOf : GoodIn wsX3_told wsX1_tellOf := goodIn_r _ [21, 22, 23, 24, 25, 26, 27, 28, 29, 30, 31, 20, 32, 33, 34, 35, 36, 37, 38, 39, 40, 41, 42, 43, 44, 45, 46, 47, 48, 49, 50, 51, 52, 53, 8, 54, 55, 56, 57, 58, 59, 60, 61, 62, 63, 64, 75, 76, 77, 78, 79, 80, 81, 82, 83] (by decide +kernel) (by decide +kernel)
set_option maxRecDepth 20000 in
theorem gX3_told_X1_tellOf : GoodIn wsX3_told (wsV RX3 142 RX1 yX1_tellOf wsX1_tellOf) := goodIn_app (goodIn_of _ (by decide +kernel)) ggX3_told_X1_tellOf
theorem dX3_told_0 : decode cX3_told 0 = .ok (.aload_n 0, 1) := by decide +kernel
theorem dX3_told_1 : decode cX3_told 1 = .ok (.iload_n 1, 1) := by decide +kernel
theorem dX3_told_2 : decode cX3_told 2 = .ok (.invokevirtual 94, 3) := by decide +kernel
theorem dX3_told_5 : decode cX3_told 5 = .ok (.iload_n 2, 1) := by decide +kernel
theorem dX3_told_6 : decode cX3_told 6 = .ok (.ifCond .lt 9, 3) := by decide +kernel
theorem dX3_told_9 : decode cX3_told 9 = .ok (.iload_n 2, 1) := by decide +kernel
theorem dX3_told_10 : decode cX3_told 10 = .ok (.bipush 9, 2) := by decide +kernel
theorem dX3_told_12 : decode cX3_told 12 = .ok (.if_icmp .lt 13, 3) := by decide +kernel
theorem dX3_told_15 : decode cX3_told 15 = .ok (.new 32, 3) := by decide +kernel
theorem dX3_told_18 : decode cX3_told 18 = .ok (.dup, 1) := by decide +kernel
theorem dX3_told_19 : decode cX3_told 19 = .ok (.ldc 140, 2) := by decide +kernel
theorem dX3_told_21 : decode cX3_told 21 = .ok (.invokespecial 36, 3) := by decide +kernel
theorem dX3_told_24 : decode cX3_told 24 = .ok (.athrow, 1) := by decide +kernel
theorem dX3_told_25 : decode cX3_told 25 = .ok (.aload_n 0, 1) := by decide +kernel
theorem dX3_told_26 : decode cX3_told 26 = .ok (.getfield 12, 3) := by decide +kernel
theorem dX3_told_29 : decode cX3_told 29 = .ok (.aload_n 0, 1) := by decide +kernel
theorem dX3_told_30 : decode cX3_told 30 = .ok (.getfield 21, 3) := by decide +kernel
theorem dX3_told_33 : decode cX3_told 33 = .ok (.iload_n 1, 1) := by decide +kernel
theorem dX3_told_34 : decode cX3_told 34 = .ok (.invokevirtual 97, 3) := by decide +kernel
theorem dX3_told_37 : decode cX3_told 37 = .ok (.iload_n 2, 1) := by decide +kernel
theorem dX3_told_38 : decode cX3_told 38 = .ok (.invokevirtual 142, 3) := by decide +kernel
theorem dX3_told_41 : decode cX3_told 41 = .ok (.ireturn, 1) := by decide +kernel
set_option maxRecDepth 20000 in
theorem ggX3_count_X0_tell : GoodIn wsX3_count wsX0_tell := goodIn_r _ [8, 9, 10, 11, 12, 13, 14, 15, 16, 17, 7, 18, 19, 20, 21, 22, 23, 24, 25, 26, 27, 28, 29, 30, 31, 32, 33, 34, 35, 36, 37, 38, 39, 40, 41, 42, 43, 44, 45, 46, 47, 48, 49, 50, 51, 52, 53, 54, 55, 56, 57, 58, 59, 60, 61, 62, 63, 64, 65, 69, 70, 71, 72, 73, 74, 75, 76, 77, 78, 79, 80, 81, 82, 83, 84] (by decide +kernel) (by decide +kernel)
set_option maxRecDepth 20000 in
theorem gX3_count_X0_tell : GoodIn wsX3_count (wsV RX3 146 RX0 yX0_tell wsX0_tell) := goodIn_app (goodIn_of _ (by decide +kernel)) ggX3_count_X0_tell
theorem dX3_count_0 : decode cX3_count 0 = .ok (.iload_n 1, 1) := by decide +kernel
theorem dX3_count_1 : decode cX3_count 1 = .ok (.ifCond .lt 9, 3) := by decide +kernel
theorem dX3_count_4 : decode cX3_count 4 = .ok (.iload_n 1, 1) := by decide +kernel
theorem dX3_count_5 : decode cX3_count 5 = .ok (.bipush 9, 2) := by decide +kernel
theorem dX3_count_7 : decode cX3_count 7 = .ok (.if_icmp .lt 13, 3) := by decide +kernel
theorem dX3_count_10 : decode cX3_count 10 = .ok (.new 32, 3) := by decide +kernel
theorem dX3_count_13 : decode cX3_count 13 = .ok (.dup, 1) := by decide +kernel
theorem dX3_count_14 : decode cX3_count 14 = .ok (.ldc 140, 2) := by decide +kernel
theorem dX3_count_16 : decode cX3_count 16 = .ok (.invokespecial 36, 3) := by decide +kernel
theorem dX3_count_19 : decode cX3_count 19 = .ok (.athrow, 1) := by decide +kernel
theorem dX3_count_20 : decode cX3_count 20 = .ok (.aload_n 0, 1) := by decide +kernel
theorem dX3_count_21 : decode cX3_count 21 = .ok (.getfield 21, 3) := by decide +kernel
theorem dX3_count_24 : decode cX3_count 24 = .ok (.iload_n 1, 1) := by decide +kernel
theorem dX3_count_25 : decode cX3_count 25 = .ok (.invokevirtual 146, 3) := by decide +kernel
theorem dX3_count_28 : decode cX3_count 28 = .ok (.ireturn, 1) := by decide +kernel
set_option maxRecDepth 20000 in
theorem ggX3_alive_X3_checkAge : GoodIn wsX3_alive wsX3_checkAge := goodIn_ca (goodIn_r _ [7, 1, 2, 8, 9, 6, 10] (by decide +kernel) (by decide +kernel)) (goodIn_sub (fun _ h => List.mem_cons_of_mem _ (List.mem_append_right _ h)) (by decide +kernel))
set_option maxRecDepth 20000 in
theorem gX3_alive_X3_checkAge : GoodIn wsX3_alive (va_wsS RX3 62 yX3_checkAge wsX3_checkAge) := goodIn_app (goodIn_of _ (by decide +kernel)) ggX3_alive_X3_checkAge
set_option maxRecDepth 20000 in
theorem ggX3_alive_X1_leftOfThousand : GoodIn wsX3_alive wsX1_leftOfThousand := goodIn_r _ [15, 16, 17, 18, 14, 19, 20, 9, 6, 10, 24, 25] (by decide +kernel) (by decide +kernel)
set_option maxRecDepth 20000 in
theorem gX3_alive_X1_leftOfThousand : GoodIn wsX3_alive (wsV RX3 151 RX1 yX1_leftOfThousand wsX1_leftOfThousand) := goodIn_app (goodIn_of _ (by decide +kernel)) ggX3_alive_X1_leftOfThousand
theorem dX3_alive_0 : decode cX3_alive 0 = .ok (.iload_n 1, 1) := by decide +kernel
theorem dX3_alive_1 : decode cX3_alive 1 = .ok (.invokestatic 62, 3) := by decide +kernel
theorem dX3_alive_4 : decode cX3_alive 4 = .ok (.iload_n 2, 1) := by decide +kernel
theorem dX3_alive_5 : decode cX3_alive 5 = .ok (.ifCond .lt 9, 3) := by decide +kernel
theorem dX3_alive_8 : decode cX3_alive 8 = .ok (.iload_n 2, 1) := by decide +kernel
theorem dX3_alive_9 : decode cX3_alive 9 = .ok (.bipush 60, 2) := by decide +kernel
theorem dX3_alive_11 : decode cX3_alive 11 = .ok (.if_icmp .le 13, 3) := by decide +kernel
theorem dX3_alive_14 : decode cX3_alive 14 = .ok (.new 39, 3) := by decide +kernel
theorem dX3_alive_17 : decode cX3_alive 17 = .ok (.dup, 1) := by decide +kernel
theorem dX3_alive_18 : decode cX3_alive 18 = .ok (.ldc 149, 2) := by decide +kernel
theorem dX3_alive_20 : decode cX3_alive 20 = .ok (.invokespecial 43, 3) := by decide +kernel
theorem dX3_alive_23 : decode cX3_alive 23 = .ok (.athrow, 1) := by decide +kernel
theorem dX3_alive_24 : decode cX3_alive 24 = .ok (.aload_n 0, 1) := by decide +kernel
theorem dX3_alive_25 : decode cX3_alive 25 = .ok (.getfield 12, 3) := by decide +kernel
theorem dX3_alive_28 : decode cX3_alive 28 = .ok (.iload_n 1, 1) := by decide +kernel
theorem dX3_alive_29 : decode cX3_alive 29 = .ok (.iload_n 2, 1) := by decide +kernel
theorem dX3_alive_30 : decode cX3_alive 30 = .ok (.invokevirtual 151, 3) := by decide +kernel
theorem dX3_alive_33 : decode cX3_alive 33 = .ok (.ireturn, 1) := by decide +kernel
set_option maxRecDepth 20000 in
theorem ggX3_pass_X3_checkYearsPassing : GoodIn wsX3_pass wsX3_checkYearsPassing := goodIn_ca (goodIn_r _ [6, 7, 8] (by decide +kernel) (by decide +kernel)) (goodIn_sub (fun _ h => List.mem_cons_of_mem _ (List.mem_append_right _ h)) (by decide +kernel))
set_option maxRecDepth 20000 in
theorem gX3_pass_X3_checkYearsPassing : GoodIn wsX3_pass (va_wsS RX3 154 yX3_checkYearsPassing wsX3_checkYearsPassing) := goodIn_app (goodIn_of _ (by decide +kernel)) ggX3_pass_X3_checkYearsPassing
set_option maxRecDepth 20000 in
theorem ggX3_pass_X0_passYears : GoodIn wsX3_pass wsX0_passYears := goodIn_r _ [13, 14, 15, 16, 12, 17, 18, 19, 20, 21, 22, 23, 24, 25, 26, 27, 28, 29, 30, 31, 32, 33, 34, 35, 36, 37, 38, 39, 40, 41, 42, 43, 44, 45, 46, 47, 48, 49, 50, 51, 52, 53, 54, 55, 56, 57, 58, 62, 63, 64, 65, 66, 67, 68, 69, 70, 71, 72, 73, 74, 75, 76, 77] (by decide +kernel) (by decide +kernel)
set_option maxRecDepth 20000 in
theorem gX3_pass_X0_passYears : GoodIn wsX3_pass (wsV RX3 160 RX0 yX0_passYears wsX0_passYears) := goodIn_app (goodIn_of _ (by decide +kernel)) ggX3_pass_X0_passYears
theorem dX3_pass_0 : decode cX3_pass 0 = .ok (.iload_n 1, 1) := by decide +kernel
theorem dX3_pass_1 : decode cX3_pass 1 = .ok (.invokestatic 154, 3) := by decide +kernel
theorem dX3_pass_4 : decode cX3_pass 4 = .ok (.aload_n 0, 1) := by decide +kernel
theorem dX3_pass_5 : decode cX3_pass 5 = .ok (.getfield 21, 3) := by decide +kernel
theorem dX3_pass_8 : decode cX3_pass 8 = .ok (.getfield 157, 3) := by decide +kernel
theorem dX3_pass_11 : decode cX3_pass 11 = .ok (.istore_n 2, 1) := by decide +kernel
theorem dX3_pass_12 : decode cX3_pass 12 = .ok (.aload_n 0, 1) := by decide +kernel
theorem dX3_pass_13 : decode cX3_pass 13 = .ok (.getfield 21, 3) := by decide +kernel
theorem dX3_pass_16 : decode cX3_pass 16 = .ok (.iload_n 1, 1) := by decide +kernel
theorem dX3_pass_17 : decode cX3_pass 17 = .ok (.invokevirtual 160, 3) := by decide +kernel
theorem dX3_pass_20 : decode cX3_pass 20 = .ok (.aload_n 0, 1) := by decide +kernel
theorem dX3_pass_21 : decode cX3_pass 21 = .ok (.getfield 21, 3) := by decide +kernel
theorem dX3_pass_24 : decode cX3_pass 24 = .ok (.getfield 157, 3) := by decide +kernel
theorem dX3_pass_27 : decode cX3_pass 27 = .ok (.iload_n 2, 1) := by decide +kernel
theorem dX3_pass_28 : decode cX3_pass 28 = .ok (.isub, 1) := by decide +kernel
theorem dX3_pass_29 : decode cX3_pass 29 = .ok (.ireturn, 1) := by decide +kernel
set_option maxRecDepth 20000 in
theorem ggX3_foresee_X3_checkYearsPassing : GoodIn wsX3_foresee wsX3_checkYearsPassing := goodIn_ca (goodIn_r _ [8, 9, 10] (by decide +kernel) (by decide +kernel)) (goodIn_sub (fun _ h => List.mem_cons_of_mem _ (List.mem_append_right _ h)) (by decide +kernel))
set_option maxRecDepth 20000 in
theorem gX3_foresee_X3_checkYearsPassing : GoodIn wsX3_foresee (va_wsS RX3 154 yX3_checkYearsPassing wsX3_checkYearsPassing) := goodIn_app (goodIn_of _ (by decide +kernel)) ggX3_foresee_X3_checkYearsPassing
set_option maxRecDepth 20000 in
theorem ggX3_foresee_X0_copy : GoodIn wsX3_foresee wsX0_copy := goodIn_r _ [15, 16, 17, 18, 19, 20, 21, 22, 23, 24, 25, 26, 27, 28, 29, 30, 31, 32, 33, 111, 112, 113, 114, 115, 116, 117, 118, 119, 120, 121, 122, 123, 124] (by decide +kernel) (by decide +kernel)
set_option maxRecDepth 20000 in
theorem gX3_foresee_X0_copy : GoodIn wsX3_foresee (wsV RX3 165 RX0 yX0_copy wsX0_copy) := goodIn_app (goodIn_of _ (by decide +kernel)) ggX3_foresee_X0_copy
set_option maxRecDepth 20000 in
theorem ggX3_foresee_X0_passYears : GoodIn wsX3_foresee wsX0_passYears := goodIn_r _ [37, 38, 39, 40, 14, 41, 17, 42, 43, 16, 20, 44, 45, 46, 47, 48, 49, 50, 51, 52, 53, 54, 55, 56, 57, 58, 21, 59, 60, 61, 25, 62, 31, 63, 64, 65, 66, 29, 28, 32, 27, 30, 67, 68, 69, 70, 18, 111, 112, 113, 114, 115, 116, 117, 125, 126, 118, 119, 120, 121, 122, 123, 124] (by decide +kernel) (by decide +kernel)
set_option maxRecDepth 20000 in
theorem gX3_foresee_X0_passYears : GoodIn wsX3_foresee (wsV RX3 160 RX0 yX0_passYears wsX0_passYears) := goodIn_app (goodIn_of _ (by decide +kernel)) ggX3_foresee_X0_passYears
set_option maxRecDepth 20000 in
theorem ggX3_foresee_X0_tell : GoodIn wsX3_foresee wsX0_tell := goodIn_r _ [74, 20, 16, 17, 42, 18, 19, 75, 76, 77, 14, 78, 55, 56, 57, 58, 21, 59, 60, 61, 25, 62, 31, 44, 45, 46, 47, 48, 49, 79, 80, 81, 82, 83, 84, 85, 86, 87, 88, 89, 90, 91, 92, 93, 94, 95, 96, 97, 98, 99, 100, 7, 101, 102, 103, 104, 105, 106, 107, 111, 112, 113, 114, 115, 116, 117, 118, 119, 120, 121, 122, 123, 124, 125, 126] (by decide +kernel) (by decide +kernel)
set_option maxRecDepth 20000 in
theorem gX3_foresee_X0_tell : GoodIn wsX3_foresee (wsV RX3 146 RX0 yX0_tell wsX0_tell) := goodIn_app (goodIn_of _ (by decide +kernel)) ggX3_foresee_X0_tell
theorem dX3_foresee_0 : decode cX3_foresee 0 = .ok (.iload_n 1, 1) := by decide +kernel
theorem dX3_foresee_1 : decode cX3_foresee 1 = .ok (.invokestatic 154, 3) := by decide +kernel
theorem dX3_foresee_4 : decode cX3_foresee 4 = .ok (.iload_n 2, 1) := by decide +kernel
theorem dX3_foresee_5 : decode cX3_foresee 5 = .ok (.iconst 2, 1) := by decide +kernel
theorem dX3_foresee_6 : decode cX3_foresee 6 = .ok (.if_icmp .lt 9, 3) := by decide +kernel
theorem dX3_foresee_9 : decode cX3_foresee 9 = .ok (.iload_n 2, 1) := by decide +kernel
theorem dX3_foresee_10 : decode cX3_foresee 10 = .ok (.bipush 7, 2) := by decide +kernel
theorem dX3_foresee_12 : decode cX3_foresee 12 = .ok (.if_icmp .le 13, 3) := by decide +kernel
theorem dX3_foresee_15 : decode cX3_foresee 15 = .ok (.new 32, 3) := by decide +kernel
theorem dX3_foresee_18 : decode cX3_foresee 18 = .ok (.dup, 1) := by decide +kernel
theorem dX3_foresee_19 : decode cX3_foresee 19 = .ok (.ldc 163, 2) := by decide +kernel
theorem dX3_foresee_21 : decode cX3_foresee 21 = .ok (.invokespecial 36, 3) := by decide +kernel
theorem dX3_foresee_24 : decode cX3_foresee 24 = .ok (.athrow, 1) := by decide +kernel
theorem dX3_foresee_25 : decode cX3_foresee 25 = .ok (.aload_n 0, 1) := by decide +kernel
theorem dX3_foresee_26 : decode cX3_foresee 26 = .ok (.getfield 25, 3) := by decide +kernel
theorem dX3_foresee_29 : decode cX3_foresee 29 = .ok (.aload_n 0, 1) := by decide +kernel
theorem dX3_foresee_30 : decode cX3_foresee 30 = .ok (.getfield 21, 3) := by decide +kernel
theorem dX3_foresee_33 : decode cX3_foresee 33 = .ok (.invokevirtual 165, 3) := by decide +kernel
theorem dX3_foresee_36 : decode cX3_foresee 36 = .ok (.aload_n 0, 1) := by decide +kernel
theorem dX3_foresee_37 : decode cX3_foresee 37 = .ok (.getfield 25, 3) := by decide +kernel
theorem dX3_foresee_40 : decode cX3_foresee 40 = .ok (.iload_n 1, 1) := by decide +kernel
theorem dX3_foresee_41 : decode cX3_foresee 41 = .ok (.invokevirtual 160, 3) := by decide +kernel
theorem dX3_foresee_44 : decode cX3_foresee 44 = .ok (.aload_n 0, 1) := by decide +kernel
theorem dX3_foresee_45 : decode cX3_foresee 45 = .ok (.getfield 25, 3) := by decide +kernel
theorem dX3_foresee_48 : decode cX3_foresee 48 = .ok (.iload_n 2, 1) := by decide +kernel
theorem dX3_foresee_49 : decode cX3_foresee 49 = .ok (.invokevirtual 146, 3) := by decide +kernel
theorem dX3_foresee_52 : decode cX3_foresee 52 = .ok (.ireturn, 1) := by decide +kernel
set_option maxRecDepth 20000 in
theorem ggX3_lasts_X0_copy : GoodIn wsX3_lasts wsX0_copy := goodIn_r _ [8, 9, 10, 11, 12, 13, 14, 15, 16, 17, 18, 19, 20, 21, 22, 23, 24, 25, 26, 63, 64, 65, 66, 67, 68, 69, 70, 71, 72, 73, 74, 75, 76] (by decide +kernel) (by decide +kernel)
set_option maxRecDepth 20000 in
theorem gX3_lasts_X0_copy : GoodIn wsX3_lasts (wsV RX3 165 RX0 yX0_copy wsX0_copy) := goodIn_app (goodIn_of _ (by decide +kernel)) ggX3_lasts_X0_copy
set_option maxRecDepth 20000 in
theorem ggX3_lasts_X0_passYear : GoodIn wsX3_lasts wsX0_passYear := goodIn_r _ [30, 10, 31, 32, 9, 13, 33, 34, 35, 36, 37, 38, 39, 40, 41, 7, 42, 43, 44, 45, 46, 47, 14, 48, 49, 50, 18, 51, 24, 52, 53, 54, 55, 22, 21, 25, 20, 23, 56, 57, 58, 59, 11, 63, 64, 65, 66, 67, 68, 69, 77, 78, 70, 71, 72, 73, 74, 75, 76] (by decide +kernel) (by decide +kernel)
set_option maxRecDepth 20000 in
theorem gX3_lasts_X0_passYear : GoodIn wsX3_lasts (wsV RX3 169 RX0 yX0_passYear wsX0_passYear) := goodIn_app (goodIn_of _ (by decide +kernel)) ggX3_lasts_X0_passYear
theorem dX3_lasts_0 : decode cX3_lasts 0 = .ok (.aload_n 0, 1) := by decide +kernel
theorem dX3_lasts_1 : decode cX3_lasts 1 = .ok (.getfield 25, 3) := by decide +kernel
theorem dX3_lasts_4 : decode cX3_lasts 4 = .ok (.aload_n 0, 1) := by decide +kernel
theorem dX3_lasts_5 : decode cX3_lasts 5 = .ok (.getfield 21, 3) := by decide +kernel
theorem dX3_lasts_8 : decode cX3_lasts 8 = .ok (.invokevirtual 165, 3) := by decide +kernel
theorem dX3_lasts_11 : decode cX3_lasts 11 = .ok (.iconst 0, 1) := by decide +kernel
theorem dX3_lasts_12 : decode cX3_lasts 12 = .ok (.istore_n 1, 1) := by decide +kernel
theorem dX3_lasts_13 : decode cX3_lasts 13 = .ok (.iload_n 1, 1) := by decide +kernel
theorem dX3_lasts_14 : decode cX3_lasts 14 = .ok (.bipush 60, 2) := by decide +kernel
theorem dX3_lasts_16 : decode cX3_lasts 16 = .ok (.if_icmp .gt 28, 3) := by decide +kernel
theorem dX3_lasts_19 : decode cX3_lasts 19 = .ok (.aload_n 0, 1) := by decide +kernel
theorem dX3_lasts_20 : decode cX3_lasts 20 = .ok (.getfield 25, 3) := by decide +kernel
theorem dX3_lasts_23 : decode cX3_lasts 23 = .ok (.getfield 137, 3) := by decide +kernel
theorem dX3_lasts_26 : decode cX3_lasts 26 = .ok (.ifCond .ge 5, 3) := by decide +kernel
theorem dX3_lasts_29 : decode cX3_lasts 29 = .ok (.iload_n 1, 1) := by decide +kernel
theorem dX3_lasts_30 : decode cX3_lasts 30 = .ok (.ireturn, 1) := by decide +kernel
theorem dX3_lasts_31 : decode cX3_lasts 31 = .ok (.aload_n 0, 1) := by decide +kernel
theorem dX3_lasts_32 : decode cX3_lasts 32 = .ok (.getfield 25, 3) := by decide +kernel
theorem dX3_lasts_35 : decode cX3_lasts 35 = .ok (.invokevirtual 169, 3) := by decide +kernel
theorem dX3_lasts_38 : decode cX3_lasts 38 = .ok (.iinc 1 1, 3) := by decide +kernel
theorem dX3_lasts_41 : decode cX3_lasts 41 = .ok (.goto (-28), 3) := by decide +kernel
theorem dX3_lasts_44 : decode cX3_lasts 44 = .ok (.iconst (-1), 1) := by decide +kernel
theorem dX3_lasts_45 : decode cX3_lasts 45 = .ok (.ireturn, 1) := by decide +kernel
set_option maxRecDepth 20000 in
theorem ggX3_even_X0_keptForAll : GoodIn wsX3_even wsX0_keptForAll := goodIn_r _ [7, 8, 9, 10, 11, 12, 6, 13, 14, 15, 16, 17, 18, 19, 20, 21, 22, 23, 24, 25, 26, 27, 28, 29, 30, 31, 32, 33, 34, 35, 36, 37, 38, 39, 40, 44, 45, 46, 47, 48, 49, 50, 51, 52, 53, 54, 55, 56, 57, 58, 59] (by decide +kernel) (by decide +kernel)
set_option maxRecDepth 20000 in
theorem gX3_even_X0_keptForAll : GoodIn wsX3_even (wsV RX3 172 RX0 yX0_keptForAll wsX0_keptForAll) := goodIn_app (goodIn_of _ (by decide +kernel)) ggX3_even_X0_keptForAll
theorem dX3_even_0 : decode cX3_even 0 = .ok (.iconst (-1), 1) := by decide +kernel
theorem dX3_even_1 : decode cX3_even 1 = .ok (.istore_n 1, 1) := by decide +kernel
theorem dX3_even_2 : decode cX3_even 2 = .ok (.sipush 128, 3) := by decide +kernel
theorem dX3_even_5 : decode cX3_even 5 = .ok (.istore_n 2, 1) := by decide +kernel
theorem dX3_even_6 : decode cX3_even 6 = .ok (.iload_n 2, 1) := by decide +kernel
theorem dX3_even_7 : decode cX3_even 7 = .ok (.ifCond .le 41, 3) := by decide +kernel
theorem dX3_even_10 : decode cX3_even 10 = .ok (.iload_n 1, 1) := by decide +kernel
theorem dX3_even_11 : decode cX3_even 11 = .ok (.iload_n 2, 1) := by decide +kernel
theorem dX3_even_12 : decode cX3_even 12 = .ok (.iadd, 1) := by decide +kernel
theorem dX3_even_13 : decode cX3_even 13 = .ok (.istore_n 3, 1) := by decide +kernel
theorem dX3_even_14 : decode cX3_even 14 = .ok (.iload_n 3, 1) := by decide +kernel
theorem dX3_even_15 : decode cX3_even 15 = .ok (.sipush 200, 3) := by decide +kernel
theorem dX3_even_18 : decode cX3_even 18 = .ok (.if_icmp .gt 23, 3) := by decide +kernel
theorem dX3_even_21 : decode cX3_even 21 = .ok (.aload_n 0, 1) := by decide +kernel
theorem dX3_even_22 : decode cX3_even 22 = .ok (.getfield 21, 3) := by decide +kernel
theorem dX3_even_25 : decode cX3_even 25 = .ok (.iload_n 3, 1) := by decide +kernel
theorem dX3_even_26 : decode cX3_even 26 = .ok (.invokevirtual 172, 3) := by decide +kernel
theorem dX3_even_29 : decode cX3_even 29 = .ok (.aload_n 0, 1) := by decide +kernel
theorem dX3_even_30 : decode cX3_even 30 = .ok (.getfield 21, 3) := by decide +kernel
theorem dX3_even_33 : decode cX3_even 33 = .ok (.getfield 137, 3) := by decide +kernel
theorem dX3_even_36 : decode cX3_even 36 = .ok (.if_icmp .le 5, 3) := by decide +kernel
theorem dX3_even_39 : decode cX3_even 39 = .ok (.iload_n 3, 1) := by decide +kernel
theorem dX3_even_40 : decode cX3_even 40 = .ok (.istore_n 1, 1) := by decide +kernel
theorem dX3_even_41 : decode cX3_even 41 = .ok (.iload_n 2, 1) := by decide +kernel
theorem dX3_even_42 : decode cX3_even 42 = .ok (.iconst 2, 1) := by decide +kernel
theorem dX3_even_43 : decode cX3_even 43 = .ok (.idiv, 1) := by decide +kernel
theorem dX3_even_44 : decode cX3_even 44 = .ok (.istore_n 2, 1) := by decide +kernel
theorem dX3_even_45 : decode cX3_even 45 = .ok (.goto (-39), 3) := by decide +kernel
theorem dX3_even_48 : decode cX3_even 48 = .ok (.iload_n 1, 1) := by decide +kernel
theorem dX3_even_49 : decode cX3_even 49 = .ok (.sipush 200, 3) := by decide +kernel
theorem dX3_even_52 : decode cX3_even 52 = .ok (.if_icmp .ne 7, 3) := by decide +kernel
theorem dX3_even_55 : decode cX3_even 55 = .ok (.iconst (-1), 1) := by decide +kernel
theorem dX3_even_56 : decode cX3_even 56 = .ok (.goto 6, 3) := by decide +kernel
theorem dX3_even_59 : decode cX3_even 59 = .ok (.iload_n 1, 1) := by decide +kernel
theorem dX3_even_60 : decode cX3_even 60 = .ok (.iconst 1, 1) := by decide +kernel
theorem dX3_even_61 : decode cX3_even 61 = .ok (.iadd, 1) := by decide +kernel
theorem dX3_even_62 : decode cX3_even 62 = .ok (.ireturn, 1) := by decide +kernel
set_option maxRecDepth 20000 in
theorem ggX3_affords_X3_checkAge : GoodIn wsX3_affords wsX3_checkAge := goodIn_ca (goodIn_r _ [8, 1, 2, 9, 10, 7, 11] (by decide +kernel) (by decide +kernel)) (goodIn_sub (fun _ h => List.mem_cons_of_mem _ (List.mem_append_right _ h)) (by decide +kernel))
set_option maxRecDepth 20000 in
theorem gX3_affords_X3_checkAge : GoodIn wsX3_affords (va_wsS RX3 62 yX3_checkAge wsX3_checkAge) := goodIn_app (goodIn_of _ (by decide +kernel)) ggX3_affords_X3_checkAge
set_option maxRecDepth 20000 in
theorem ggX3_affords_X3_checkPutOff : GoodIn wsX3_affords wsX3_checkPutOff := goodIn_ca (goodIn_r _ [14, 1, 2] (by decide +kernel) (by decide +kernel)) (goodIn_sub (fun _ h => List.mem_cons_of_mem _ (List.mem_append_right _ h)) (by decide +kernel))
set_option maxRecDepth 20000 in
theorem gX3_affords_X3_checkPutOff : GoodIn wsX3_affords (va_wsS RX3 69 yX3_checkPutOff wsX3_checkPutOff) := goodIn_app (goodIn_of _ (by decide +kernel)) ggX3_affords_X3_checkPutOff
set_option maxRecDepth 20000 in
theorem ggX3_affords_X1_worthNow : GoodIn wsX3_affords wsX1_worthNow := goodIn_r _ [19, 20, 21, 22, 23, 18, 24, 25, 26, 27, 28, 29, 10, 7, 11, 41, 42] (by decide +kernel) (by decide +kernel)
set_option maxRecDepth 20000 in
theorem gX3_affords_X1_worthNow : GoodIn wsX3_affords (wsV RX3 81 RX1 yX1_worthNow wsX1_worthNow) := goodIn_app (goodIn_of _ (by decide +kernel)) ggX3_affords_X1_worthNow
set_option maxRecDepth 20000 in
theorem ggX3_affords_X1_greatestSum : GoodIn wsX3_affords wsX1_greatestSum := goodIn_r _ [33, 34, 35, 36, 18, 37, 20, 41, 42] (by decide +kernel) (by decide +kernel)
set_option maxRecDepth 20000 in
theorem gX3_affords_X1_greatestSum : GoodIn wsX3_affords (wsV RX3 177 RX1 yX1_greatestSum wsX1_greatestSum) := goodIn_app (goodIn_of _ (by decide +kernel)) ggX3_affords_X1_greatestSum
theorem dX3_affords_0 : decode cX3_affords 0 = .ok (.iload_n 1, 1) := by decide +kernel
theorem dX3_affords_1 : decode cX3_affords 1 = .ok (.invokestatic 62, 3) := by decide +kernel
theorem dX3_affords_4 : decode cX3_affords 4 = .ok (.iload_n 2, 1) := by decide +kernel
theorem dX3_affords_5 : decode cX3_affords 5 = .ok (.invokestatic 69, 3) := by decide +kernel
theorem dX3_affords_8 : decode cX3_affords 8 = .ok (.iload_n 3, 1) := by decide +kernel
theorem dX3_affords_9 : decode cX3_affords 9 = .ok (.iconst 1, 1) := by decide +kernel
theorem dX3_affords_10 : decode cX3_affords 10 = .ok (.if_icmp .lt 9, 3) := by decide +kernel
theorem dX3_affords_13 : decode cX3_affords 13 = .ok (.iload_n 3, 1) := by decide +kernel
theorem dX3_affords_14 : decode cX3_affords 14 = .ok (.ldc 131, 2) := by decide +kernel
theorem dX3_affords_16 : decode cX3_affords 16 = .ok (.if_icmp .le 13, 3) := by decide +kernel
theorem dX3_affords_19 : decode cX3_affords 19 = .ok (.new 39, 3) := by decide +kernel
theorem dX3_affords_22 : decode cX3_affords 22 = .ok (.dup, 1) := by decide +kernel
theorem dX3_affords_23 : decode cX3_affords 23 = .ok (.ldc 175, 2) := by decide +kernel
theorem dX3_affords_25 : decode cX3_affords 25 = .ok (.invokespecial 43, 3) := by decide +kernel
theorem dX3_affords_28 : decode cX3_affords 28 = .ok (.athrow, 1) := by decide +kernel
theorem dX3_affords_29 : decode cX3_affords 29 = .ok (.aload_n 0, 1) := by decide +kernel
theorem dX3_affords_30 : decode cX3_affords 30 = .ok (.getfield 12, 3) := by decide +kernel
theorem dX3_affords_33 : decode cX3_affords 33 = .ok (.iload_n 1, 1) := by decide +kernel
theorem dX3_affords_34 : decode cX3_affords 34 = .ok (.iload_n 2, 1) := by decide +kernel
theorem dX3_affords_35 : decode cX3_affords 35 = .ok (.invokevirtual 81, 3) := by decide +kernel
theorem dX3_affords_38 : decode cX3_affords 38 = .ok (.istore 4, 2) := by decide +kernel
theorem dX3_affords_40 : decode cX3_affords 40 = .ok (.iload 4, 2) := by decide +kernel
theorem dX3_affords_42 : decode cX3_affords 42 = .ok (.ifCond .ne 7, 3) := by decide +kernel
theorem dX3_affords_45 : decode cX3_affords 45 = .ok (.iconst 0, 1) := by decide +kernel
theorem dX3_affords_46 : decode cX3_affords 46 = .ok (.goto 13, 3) := by decide +kernel
theorem dX3_affords_49 : decode cX3_affords 49 = .ok (.aload_n 0, 1) := by decide +kernel
theorem dX3_affords_50 : decode cX3_affords 50 = .ok (.getfield 12, 3) := by decide +kernel
theorem dX3_affords_53 : decode cX3_affords 53 = .ok (.iload 4, 2) := by decide +kernel
theorem dX3_affords_55 : decode cX3_affords 55 = .ok (.iload_n 3, 1) := by decide +kernel
theorem dX3_affords_56 : decode cX3_affords 56 = .ok (.invokevirtual 177, 3) := by decide +kernel
theorem dX3_affords_59 : decode cX3_affords 59 = .ok (.ireturn, 1) := by decide +kernel
set_option maxRecDepth 20000 in
theorem ggX3_mean_X0_living : GoodIn wsX3_mean wsX0_living := goodIn_r _ [6, 7, 8, 9, 10, 5, 11, 12, 13, 14, 15, 16, 17, 18, 27, 28, 29, 30, 31, 32, 33, 34, 35, 36, 37, 38, 39, 40] (by decide +kernel) (by decide +kernel)
set_option maxRecDepth 20000 in
theorem gX3_mean_X0_living : GoodIn wsX3_mean (wsV RX3 180 RX0 yX0_living wsX0_living) := goodIn_app (goodIn_of _ (by decide +kernel)) ggX3_mean_X0_living
set_option maxRecDepth 20000 in
theorem ggX3_mean_X0_agesOfLiving : GoodIn wsX3_mean wsX0_agesOfLiving := goodIn_r _ [22, 7, 23, 8, 9, 10, 5, 11, 12, 13, 14, 15, 16, 17, 18, 27, 28, 29, 30, 31, 32, 33, 34, 35, 36, 37, 38, 39, 40] (by decide +kernel) (by decide +kernel)
set_option maxRecDepth 20000 in
theorem gX3_mean_X0_agesOfLiving : GoodIn wsX3_mean (wsV RX3 184 RX0 yX0_agesOfLiving wsX0_agesOfLiving) := goodIn_app (goodIn_of _ (by decide +kernel)) ggX3_mean_X0_agesOfLiving
theorem dX3_mean_0 : decode cX3_mean 0 = .ok (.aload_n 0, 1) := by decide +kernel
theorem dX3_mean_1 : decode cX3_mean 1 = .ok (.getfield 21, 3) := by decide +kernel
theorem dX3_mean_4 : decode cX3_mean 4 = .ok (.invokevirtual 180, 3) := by decide +kernel
theorem dX3_mean_7 : decode cX3_mean 7 = .ok (.istore_n 1, 1) := by decide +kernel
theorem dX3_mean_8 : decode cX3_mean 8 = .ok (.iload_n 1, 1) := by decide +kernel
theorem dX3_mean_9 : decode cX3_mean 9 = .ok (.ifCond .ne 7, 3) := by decide +kernel
theorem dX3_mean_12 : decode cX3_mean 12 = .ok (.dconst 0, 1) := by decide +kernel
theorem dX3_mean_13 : decode cX3_mean 13 = .ok (.goto 14, 3) := by decide +kernel
theorem dX3_mean_16 : decode cX3_mean 16 = .ok (.aload_n 0, 1) := by decide +kernel
theorem dX3_mean_17 : decode cX3_mean 17 = .ok (.getfield 21, 3) := by decide +kernel
theorem dX3_mean_20 : decode cX3_mean 20 = .ok (.invokevirtual 184, 3) := by decide +kernel
theorem dX3_mean_23 : decode cX3_mean 23 = .ok (.i2d, 1) := by decide +kernel
theorem dX3_mean_24 : decode cX3_mean 24 = .ok (.iload_n 1, 1) := by decide +kernel
theorem dX3_mean_25 : decode cX3_mean 25 = .ok (.i2d, 1) := by decide +kernel
theorem dX3_mean_26 : decode cX3_mean 26 = .ok (.ddiv, 1) := by decide +kernel
theorem dX3_mean_27 : decode cX3_mean 27 = .ok (.dreturn, 1) := by decide +kernel
set_option maxRecDepth 20000 in
theorem ggX3_digest_X0_tell : GoodIn wsX3_digest wsX0_tell := goodIn_r _ [10, 11, 12, 13, 14, 15, 16, 17, 18, 19, 9, 20, 21, 22, 23, 24, 25, 26, 27, 28, 29, 30, 31, 32, 33, 34, 35, 36, 37, 38, 39, 40, 41, 42, 43, 44, 45, 46, 47, 48, 49, 50, 51, 52, 53, 54, 55, 56, 57, 58, 59, 60, 61, 62, 63, 64, 65, 66, 67, 97, 98, 99, 100, 101, 102, 103, 104, 105, 106, 107, 108, 109, 110, 111, 112] (by decide +kernel) (by decide +kernel)
set_option maxRecDepth 20000 in
theorem gX3_digest_X0_tell : GoodIn wsX3_digest (wsV RX3 146 RX0 yX0_tell wsX0_tell) := goodIn_app (goodIn_of _ (by decide +kernel)) ggX3_digest_X0_tell
set_option maxRecDepth 20000 in
theorem ggX3_digest_X1_rate : GoodIn wsX3_digest wsX1_rate := goodIn_r _ [36, 37, 111, 112] (by decide +kernel) (by decide +kernel)
set_option maxRecDepth 20000 in
theorem gX3_digest_X1_rate : GoodIn wsX3_digest (wsV RX3 56 RX1 yX1_rate wsX1_rate) := goodIn_app (goodIn_of _ (by decide +kernel)) ggX3_digest_X1_rate
set_option maxRecDepth 20000 in
theorem ggX3_digest_X1_deathsAt : GoodIn wsX3_digest wsX1_deathsAt := goodIn_r _ [57, 58, 59, 60, 61, 111, 112] (by decide +kernel) (by decide +kernel)
set_option maxRecDepth 20000 in
theorem gX3_digest_X1_deathsAt : GoodIn wsX3_digest (wsV RX3 44 RX1 yX1_deathsAt wsX1_deathsAt) := goodIn_app (goodIn_of _ (by decide +kernel)) ggX3_digest_X1_deathsAt
set_option maxRecDepth 20000 in
theorem ggX3_digest_X0_widowAt : GoodIn wsX3_digest wsX0_widowAt := goodIn_r _ [24, 25, 97, 98, 99, 100, 101, 102, 103] (by decide +kernel) (by decide +kernel)
set_option maxRecDepth 20000 in
theorem gX3_digest_X0_widowAt : GoodIn wsX3_digest (wsV RX3 97 RX0 yX0_widowAt wsX0_widowAt) := goodIn_app (goodIn_of _ (by decide +kernel)) ggX3_digest_X0_widowAt
set_option maxRecDepth 20000 in
theorem ggX3_digest_X1_tellOf : GoodIn wsX3_digest wsX1_tellOf := goodIn_r _ [74, 47, 46, 48, 75, 76, 77, 78, 79, 80, 81, 35, 82, 37, 83, 43, 44, 45, 49, 27, 28, 29, 30, 31, 50, 51, 52, 53, 54, 55, 56, 57, 58, 59, 60, 61, 84, 85, 86, 87, 88, 89, 90, 91, 92, 93, 104, 105, 106, 107, 108, 109, 110, 111, 112] (by decide +kernel) (by decide +kernel)
set_option maxRecDepth 20000 in
theorem gX3_digest_X1_tellOf : GoodIn wsX3_digest (wsV RX3 142 RX1 yX1_tellOf wsX1_tellOf) := goodIn_app (goodIn_of _ (by decide +kernel)) ggX3_digest_X1_tellOf
theorem dX3_digest_0 : decode cX3_digest 0 = .ok (.ldc2_w 187, 3) := by decide +kernel
theorem dX3_digest_3 : decode cX3_digest 3 = .ok (.lstore_n 1, 1) := by decide +kernel
theorem dX3_digest_4 : decode cX3_digest 4 = .ok (.iconst 0, 1) := by decide +kernel
theorem dX3_digest_5 : decode cX3_digest 5 = .ok (.istore_n 3, 1) := by decide +kernel
theorem dX3_digest_6 : decode cX3_digest 6 = .ok (.iload_n 3, 1) := by decide +kernel
theorem dX3_digest_7 : decode cX3_digest 7 = .ok (.bipush 9, 2) := by decide +kernel
theorem dX3_digest_9 : decode cX3_digest 9 = .ok (.if_icmp .ge 25, 3) := by decide +kernel
theorem dX3_digest_12 : decode cX3_digest 12 = .ok (.lload_n 1, 1) := by decide +kernel
theorem dX3_digest_13 : decode cX3_digest 13 = .ok (.ldc2_w 189, 3) := by decide +kernel
theorem dX3_digest_16 : decode cX3_digest 16 = .ok (.lmul, 1) := by decide +kernel
theorem dX3_digest_17 : decode cX3_digest 17 = .ok (.aload_n 0, 1) := by decide +kernel
theorem dX3_digest_18 : decode cX3_digest 18 = .ok (.getfield 21, 3) := by decide +kernel
theorem dX3_digest_21 : decode cX3_digest 21 = .ok (.iload_n 3, 1) := by decide +kernel
theorem dX3_digest_22 : decode cX3_digest 22 = .ok (.invokevirtual 146, 3) := by decide +kernel
theorem dX3_digest_25 : decode cX3_digest 25 = .ok (.i2l, 1) := by decide +kernel
theorem dX3_digest_26 : decode cX3_digest 26 = .ok (.ladd, 1) := by decide +kernel
theorem dX3_digest_27 : decode cX3_digest 27 = .ok (.lstore_n 1, 1) := by decide +kernel
theorem dX3_digest_28 : decode cX3_digest 28 = .ok (.iinc 3 1, 3) := by decide +kernel
theorem dX3_digest_31 : decode cX3_digest 31 = .ok (.goto (-25), 3) := by decide +kernel
theorem dX3_digest_34 : decode cX3_digest 34 = .ok (.iconst 0, 1) := by decide +kernel
theorem dX3_digest_35 : decode cX3_digest 35 = .ok (.istore_n 3, 1) := by decide +kernel
theorem dX3_digest_36 : decode cX3_digest 36 = .ok (.iload_n 3, 1) := by decide +kernel
theorem dX3_digest_37 : decode cX3_digest 37 = .ok (.iconst 3, 1) := by decide +kernel
theorem dX3_digest_38 : decode cX3_digest 38 = .ok (.if_icmp .ge 25, 3) := by decide +kernel
theorem dX3_digest_41 : decode cX3_digest 41 = .ok (.lload_n 1, 1) := by decide +kernel
theorem dX3_digest_42 : decode cX3_digest 42 = .ok (.ldc2_w 189, 3) := by decide +kernel
theorem dX3_digest_45 : decode cX3_digest 45 = .ok (.lmul, 1) := by decide +kernel
theorem dX3_digest_46 : decode cX3_digest 46 = .ok (.aload_n 0, 1) := by decide +kernel
theorem dX3_digest_47 : decode cX3_digest 47 = .ok (.getfield 12, 3) := by decide +kernel
theorem dX3_digest_50 : decode cX3_digest 50 = .ok (.iload_n 3, 1) := by decide +kernel
theorem dX3_digest_51 : decode cX3_digest 51 = .ok (.invokevirtual 56, 3) := by decide +kernel
theorem dX3_digest_54 : decode cX3_digest 54 = .ok (.i2l, 1) := by decide +kernel
theorem dX3_digest_55 : decode cX3_digest 55 = .ok (.ladd, 1) := by decide +kernel
theorem dX3_digest_56 : decode cX3_digest 56 = .ok (.lstore_n 1, 1) := by decide +kernel
theorem dX3_digest_57 : decode cX3_digest 57 = .ok (.iinc 3 1, 3) := by decide +kernel
theorem dX3_digest_60 : decode cX3_digest 60 = .ok (.goto (-24), 3) := by decide +kernel
theorem dX3_digest_63 : decode cX3_digest 63 = .ok (.bipush 50, 2) := by decide +kernel
theorem dX3_digest_65 : decode cX3_digest 65 = .ok (.istore_n 3, 1) := by decide +kernel
theorem dX3_digest_66 : decode cX3_digest 66 = .ok (.iload_n 3, 1) := by decide +kernel
theorem dX3_digest_67 : decode cX3_digest 67 = .ok (.bipush 99, 2) := by decide +kernel
theorem dX3_digest_69 : decode cX3_digest 69 = .ok (.if_icmp .gt 25, 3) := by decide +kernel
theorem dX3_digest_72 : decode cX3_digest 72 = .ok (.lload_n 1, 1) := by decide +kernel
theorem dX3_digest_73 : decode cX3_digest 73 = .ok (.ldc2_w 189, 3) := by decide +kernel
theorem dX3_digest_76 : decode cX3_digest 76 = .ok (.lmul, 1) := by decide +kernel
theorem dX3_digest_77 : decode cX3_digest 77 = .ok (.aload_n 0, 1) := by decide +kernel
theorem dX3_digest_78 : decode cX3_digest 78 = .ok (.getfield 12, 3) := by decide +kernel
theorem dX3_digest_81 : decode cX3_digest 81 = .ok (.iload_n 3, 1) := by decide +kernel
theorem dX3_digest_82 : decode cX3_digest 82 = .ok (.invokevirtual 44, 3) := by decide +kernel
theorem dX3_digest_85 : decode cX3_digest 85 = .ok (.i2l, 1) := by decide +kernel
theorem dX3_digest_86 : decode cX3_digest 86 = .ok (.ladd, 1) := by decide +kernel
theorem dX3_digest_87 : decode cX3_digest 87 = .ok (.lstore_n 1, 1) := by decide +kernel
theorem dX3_digest_88 : decode cX3_digest 88 = .ok (.iinc 3 1, 3) := by decide +kernel
theorem dX3_digest_91 : decode cX3_digest 91 = .ok (.goto (-25), 3) := by decide +kernel
theorem dX3_digest_94 : decode cX3_digest 94 = .ok (.iconst 0, 1) := by decide +kernel
theorem dX3_digest_95 : decode cX3_digest 95 = .ok (.istore_n 3, 1) := by decide +kernel
theorem dX3_digest_96 : decode cX3_digest 96 = .ok (.iload_n 3, 1) := by decide +kernel
theorem dX3_digest_97 : decode cX3_digest 97 = .ok (.aload_n 0, 1) := by decide +kernel
theorem dX3_digest_98 : decode cX3_digest 98 = .ok (.getfield 21, 3) := by decide +kernel
theorem dX3_digest_101 : decode cX3_digest 101 = .ok (.getfield 191, 3) := by decide +kernel
theorem dX3_digest_104 : decode cX3_digest 104 = .ok (.if_icmp .ge 50, 3) := by decide +kernel
theorem dX3_digest_107 : decode cX3_digest 107 = .ok (.iconst 0, 1) := by decide +kernel
theorem dX3_digest_108 : decode cX3_digest 108 = .ok (.istore 4, 2) := by decide +kernel
theorem dX3_digest_110 : decode cX3_digest 110 = .ok (.iload 4, 2) := by decide +kernel
theorem dX3_digest_112 : decode cX3_digest 112 = .ok (.bipush 9, 2) := by decide +kernel
theorem dX3_digest_114 : decode cX3_digest 114 = .ok (.if_icmp .ge 34, 3) := by decide +kernel
theorem dX3_digest_117 : decode cX3_digest 117 = .ok (.lload_n 1, 1) := by decide +kernel
theorem dX3_digest_118 : decode cX3_digest 118 = .ok (.ldc2_w 189, 3) := by decide +kernel
theorem dX3_digest_121 : decode cX3_digest 121 = .ok (.lmul, 1) := by decide +kernel
theorem dX3_digest_122 : decode cX3_digest 122 = .ok (.aload_n 0, 1) := by decide +kernel
theorem dX3_digest_123 : decode cX3_digest 123 = .ok (.getfield 12, 3) := by decide +kernel
theorem dX3_digest_126 : decode cX3_digest 126 = .ok (.aload_n 0, 1) := by decide +kernel
theorem dX3_digest_127 : decode cX3_digest 127 = .ok (.getfield 21, 3) := by decide +kernel
theorem dX3_digest_130 : decode cX3_digest 130 = .ok (.iload_n 3, 1) := by decide +kernel
theorem dX3_digest_131 : decode cX3_digest 131 = .ok (.invokevirtual 97, 3) := by decide +kernel
theorem dX3_digest_134 : decode cX3_digest 134 = .ok (.iload 4, 2) := by decide +kernel
theorem dX3_digest_136 : decode cX3_digest 136 = .ok (.invokevirtual 142, 3) := by decide +kernel
theorem dX3_digest_139 : decode cX3_digest 139 = .ok (.i2l, 1) := by decide +kernel
theorem dX3_digest_140 : decode cX3_digest 140 = .ok (.ladd, 1) := by decide +kernel
theorem dX3_digest_141 : decode cX3_digest 141 = .ok (.lstore_n 1, 1) := by decide +kernel
theorem dX3_digest_142 : decode cX3_digest 142 = .ok (.iinc 4 1, 3) := by decide +kernel
theorem dX3_digest_145 : decode cX3_digest 145 = .ok (.goto (-35), 3) := by decide +kernel
theorem dX3_digest_148 : decode cX3_digest 148 = .ok (.iinc 3 1, 3) := by decide +kernel
theorem dX3_digest_151 : decode cX3_digest 151 = .ok (.goto (-55), 3) := by decide +kernel
theorem dX3_digest_154 : decode cX3_digest 154 = .ok (.lload_n 1, 1) := by decide +kernel
theorem dX3_digest_155 : decode cX3_digest 155 = .ok (.lreturn, 1) := by decide +kernel
theorem dX3_isAge_0 : decode cX3_isAge 0 = .ok (.iload_n 0, 1) := by decide +kernel
theorem dX3_isAge_1 : decode cX3_isAge 1 = .ok (.bipush 50, 2) := by decide +kernel
theorem dX3_isAge_3 : decode cX3_isAge 3 = .ok (.if_icmp .lt 13, 3) := by decide +kernel
theorem dX3_isAge_6 : decode cX3_isAge 6 = .ok (.iload_n 0, 1) := by decide +kernel
theorem dX3_isAge_7 : decode cX3_isAge 7 = .ok (.bipush 99, 2) := by decide +kernel
theorem dX3_isAge_9 : decode cX3_isAge 9 = .ok (.if_icmp .gt 7, 3) := by decide +kernel
theorem dX3_isAge_12 : decode cX3_isAge 12 = .ok (.iconst 1, 1) := by decide +kernel
theorem dX3_isAge_13 : decode cX3_isAge 13 = .ok (.goto 4, 3) := by decide +kernel
theorem dX3_isAge_16 : decode cX3_isAge 16 = .ok (.iconst 0, 1) := by decide +kernel
theorem dX3_isAge_17 : decode cX3_isAge 17 = .ok (.ireturn, 1) := by decide +kernel
set_option maxRecDepth 20000 in
theorem ggX3_checkAge_X3_isAge : GoodIn wsX3_checkAge wsX3_isAge := goodIn_r _ [6] (by decide +kernel) (by decide +kernel)
set_option maxRecDepth 20000 in
theorem gX3_checkAge_X3_isAge : GoodIn wsX3_checkAge (va_wsS RX3 28 yX3_isAge wsX3_isAge) := goodIn_app (goodIn_of _ (by decide +kernel)) ggX3_checkAge_X3_isAge
theorem dX3_checkAge_0 : decode cX3_checkAge 0 = .ok (.iload_n 0, 1) := by decide +kernel
theorem dX3_checkAge_1 : decode cX3_checkAge 1 = .ok (.invokestatic 28, 3) := by decide +kernel
theorem dX3_checkAge_4 : decode cX3_checkAge 4 = .ok (.ifCond .ne 13, 3) := by decide +kernel
theorem dX3_checkAge_7 : decode cX3_checkAge 7 = .ok (.new 39, 3) := by decide +kernel
theorem dX3_checkAge_10 : decode cX3_checkAge 10 = .ok (.dup, 1) := by decide +kernel
theorem dX3_checkAge_11 : decode cX3_checkAge 11 = .ok (.ldc 34, 2) := by decide +kernel
theorem dX3_checkAge_13 : decode cX3_checkAge 13 = .ok (.invokespecial 43, 3) := by decide +kernel
theorem dX3_checkAge_16 : decode cX3_checkAge 16 = .ok (.athrow, 1) := by decide +kernel
theorem dX3_checkAge_17 : decode cX3_checkAge 17 = .ok (.return_, 1) := by decide +kernel
theorem dX3_checkSum_0 : decode cX3_checkSum 0 = .ok (.iload_n 0, 1) := by decide +kernel
theorem dX3_checkSum_1 : decode cX3_checkSum 1 = .ok (.iconst 1, 1) := by decide +kernel
theorem dX3_checkSum_2 : decode cX3_checkSum 2 = .ok (.if_icmp .lt 10, 3) := by decide +kernel
theorem dX3_checkSum_5 : decode cX3_checkSum 5 = .ok (.iload_n 0, 1) := by decide +kernel
theorem dX3_checkSum_6 : decode cX3_checkSum 6 = .ok (.sipush 999, 3) := by decide +kernel
theorem dX3_checkSum_9 : decode cX3_checkSum 9 = .ok (.if_icmp .le 13, 3) := by decide +kernel
theorem dX3_checkSum_12 : decode cX3_checkSum 12 = .ok (.new 39, 3) := by decide +kernel
theorem dX3_checkSum_15 : decode cX3_checkSum 15 = .ok (.dup, 1) := by decide +kernel
theorem dX3_checkSum_16 : decode cX3_checkSum 16 = .ok (.ldc 194, 2) := by decide +kernel
theorem dX3_checkSum_18 : decode cX3_checkSum 18 = .ok (.invokespecial 43, 3) := by decide +kernel
theorem dX3_checkSum_21 : decode cX3_checkSum 21 = .ok (.athrow, 1) := by decide +kernel
theorem dX3_checkSum_22 : decode cX3_checkSum 22 = .ok (.return_, 1) := by decide +kernel
theorem dX3_checkPutOff_0 : decode cX3_checkPutOff 0 = .ok (.iload_n 0, 1) := by decide +kernel
theorem dX3_checkPutOff_1 : decode cX3_checkPutOff 1 = .ok (.ifCond .lt 9, 3) := by decide +kernel
theorem dX3_checkPutOff_4 : decode cX3_checkPutOff 4 = .ok (.iload_n 0, 1) := by decide +kernel
theorem dX3_checkPutOff_5 : decode cX3_checkPutOff 5 = .ok (.bipush 30, 2) := by decide +kernel
theorem dX3_checkPutOff_7 : decode cX3_checkPutOff 7 = .ok (.if_icmp .le 13, 3) := by decide +kernel
theorem dX3_checkPutOff_10 : decode cX3_checkPutOff 10 = .ok (.new 39, 3) := by decide +kernel
theorem dX3_checkPutOff_13 : decode cX3_checkPutOff 13 = .ok (.dup, 1) := by decide +kernel
theorem dX3_checkPutOff_14 : decode cX3_checkPutOff 14 = .ok (.ldc 196, 2) := by decide +kernel
theorem dX3_checkPutOff_16 : decode cX3_checkPutOff 16 = .ok (.invokespecial 43, 3) := by decide +kernel
theorem dX3_checkPutOff_19 : decode cX3_checkPutOff 19 = .ok (.athrow, 1) := by decide +kernel
theorem dX3_checkPutOff_20 : decode cX3_checkPutOff 20 = .ok (.return_, 1) := by decide +kernel
theorem dX3_checkYearsPassing_0 : decode cX3_checkYearsPassing 0 = .ok (.iload_n 0, 1) := by decide +kernel
theorem dX3_checkYearsPassing_1 : decode cX3_checkYearsPassing 1 = .ok (.iconst 1, 1) := by decide +kernel
theorem dX3_checkYearsPassing_2 : decode cX3_checkYearsPassing 2 = .ok (.if_icmp .lt 9, 3) := by decide +kernel
theorem dX3_checkYearsPassing_5 : decode cX3_checkYearsPassing 5 = .ok (.iload_n 0, 1) := by decide +kernel
theorem dX3_checkYearsPassing_6 : decode cX3_checkYearsPassing 6 = .ok (.bipush 50, 2) := by decide +kernel
theorem dX3_checkYearsPassing_8 : decode cX3_checkYearsPassing 8 = .ok (.if_icmp .le 13, 3) := by decide +kernel
theorem dX3_checkYearsPassing_11 : decode cX3_checkYearsPassing 11 = .ok (.new 39, 3) := by decide +kernel
theorem dX3_checkYearsPassing_14 : decode cX3_checkYearsPassing 14 = .ok (.dup, 1) := by decide +kernel
theorem dX3_checkYearsPassing_15 : decode cX3_checkYearsPassing 15 = .ok (.ldc 198, 2) := by decide +kernel
theorem dX3_checkYearsPassing_17 : decode cX3_checkYearsPassing 17 = .ok (.invokespecial 43, 3) := by decide +kernel
theorem dX3_checkYearsPassing_20 : decode cX3_checkYearsPassing 20 = .ok (.athrow, 1) := by decide +kernel
theorem dX3_checkYearsPassing_21 : decode cX3_checkYearsPassing 21 = .ok (.return_, 1) := by decide +kernel
theorem dX3_checkWidow_0 : decode cX3_checkWidow 0 = .ok (.iload_n 1, 1) := by decide +kernel
theorem dX3_checkWidow_1 : decode cX3_checkWidow 1 = .ok (.ifCond .lt 14, 3) := by decide +kernel
theorem dX3_checkWidow_4 : decode cX3_checkWidow 4 = .ok (.iload_n 1, 1) := by decide +kernel
theorem dX3_checkWidow_5 : decode cX3_checkWidow 5 = .ok (.aload_n 0, 1) := by decide +kernel
theorem dX3_checkWidow_6 : decode cX3_checkWidow 6 = .ok (.getfield 21, 3) := by decide +kernel
theorem dX3_checkWidow_9 : decode cX3_checkWidow 9 = .ok (.getfield 191, 3) := by decide +kernel
theorem dX3_checkWidow_12 : decode cX3_checkWidow 12 = .ok (.if_icmp .lt 13, 3) := by decide +kernel
theorem dX3_checkWidow_15 : decode cX3_checkWidow 15 = .ok (.new 32, 3) := by decide +kernel
theorem dX3_checkWidow_18 : decode cX3_checkWidow 18 = .ok (.dup, 1) := by decide +kernel
theorem dX3_checkWidow_19 : decode cX3_checkWidow 19 = .ok (.ldc 200, 2) := by decide +kernel
theorem dX3_checkWidow_21 : decode cX3_checkWidow 21 = .ok (.invokespecial 36, 3) := by decide +kernel
theorem dX3_checkWidow_24 : decode cX3_checkWidow 24 = .ok (.athrow, 1) := by decide +kernel
theorem dX3_checkWidow_25 : decode cX3_checkWidow 25 = .ok (.return_, 1) := by decide +kernel
set_option maxRecDepth 20000 in
theorem ggX4_init_X4_reckon : GoodIn wsX4_init wsX4_reckon := goodIn_r _ [14, 9, 6, 5, 15, 16, 17, 18, 19, 20, 21] (by decide +kernel) (by decide +kernel)
set_option maxRecDepth 20000 in
theorem gX4_init_X4_reckon : GoodIn wsX4_init (wsV RX4 25 RX4 yX4_reckon wsX4_reckon) := goodIn_app (goodIn_of _ (by decide +kernel)) ggX4_init_X4_reckon
theorem dX4_init_0 : decode cX4_init 0 = .ok (.aload_n 0, 1) := by decide +kernel
theorem dX4_init_1 : decode cX4_init 1 = .ok (.invokespecial 1, 3) := by decide +kernel
theorem dX4_init_4 : decode cX4_init 4 = .ok (.aload_n 0, 1) := by decide +kernel
theorem dX4_init_5 : decode cX4_init 5 = .ok (.iconst 3, 1) := by decide +kernel
theorem dX4_init_6 : decode cX4_init 6 = .ok (.newarray .int, 2) := by decide +kernel
theorem dX4_init_8 : decode cX4_init 8 = .ok (.dup, 1) := by decide +kernel
theorem dX4_init_9 : decode cX4_init 9 = .ok (.iconst 0, 1) := by decide +kernel
theorem dX4_init_10 : decode cX4_init 10 = .ok (.bipush 40, 2) := by decide +kernel
theorem dX4_init_12 : decode cX4_init 12 = .ok (.iastore, 1) := by decide +kernel
theorem dX4_init_13 : decode cX4_init 13 = .ok (.dup, 1) := by decide +kernel
theorem dX4_init_14 : decode cX4_init 14 = .ok (.iconst 1, 1) := by decide +kernel
theorem dX4_init_15 : decode cX4_init 15 = .ok (.iconst 5, 1) := by decide +kernel
theorem dX4_init_16 : decode cX4_init 16 = .ok (.iastore, 1) := by decide +kernel
theorem dX4_init_17 : decode cX4_init 17 = .ok (.dup, 1) := by decide +kernel
theorem dX4_init_18 : decode cX4_init 18 = .ok (.iconst 2, 1) := by decide +kernel
theorem dX4_init_19 : decode cX4_init 19 = .ok (.bipush 10, 2) := by decide +kernel
theorem dX4_init_21 : decode cX4_init 21 = .ok (.iastore, 1) := by decide +kernel
theorem dX4_init_22 : decode cX4_init 22 = .ok (.putfield 7, 3) := by decide +kernel
theorem dX4_init_25 : decode cX4_init 25 = .ok (.aload_n 0, 1) := by decide +kernel
theorem dX4_init_26 : decode cX4_init 26 = .ok (.bipush 50, 2) := by decide +kernel
theorem dX4_init_28 : decode cX4_init 28 = .ok (.newarray .int, 2) := by decide +kernel
theorem dX4_init_30 : decode cX4_init 30 = .ok (.putfield 13, 3) := by decide +kernel
theorem dX4_init_33 : decode cX4_init 33 = .ok (.aload_n 0, 1) := by decide +kernel
theorem dX4_init_34 : decode cX4_init 34 = .ok (.bipush 70, 2) := by decide +kernel
theorem dX4_init_36 : decode cX4_init 36 = .ok (.newarray .int, 2) := by decide +kernel
theorem dX4_init_38 : decode cX4_init 38 = .ok (.putfield 16, 3) := by decide +kernel
theorem dX4_init_41 : decode cX4_init 41 = .ok (.aload_n 0, 1) := by decide +kernel
theorem dX4_init_42 : decode cX4_init 42 = .ok (.iconst 3, 1) := by decide +kernel
theorem dX4_init_43 : decode cX4_init 43 = .ok (.newarray .int, 2) := by decide +kernel
theorem dX4_init_45 : decode cX4_init 45 = .ok (.dup, 1) := by decide +kernel
theorem dX4_init_46 : decode cX4_init 46 = .ok (.iconst 0, 1) := by decide +kernel
theorem dX4_init_47 : decode cX4_init 47 = .ok (.iconst 0, 1) := by decide +kernel
theorem dX4_init_48 : decode cX4_init 48 = .ok (.iastore, 1) := by decide +kernel
theorem dX4_init_49 : decode cX4_init 49 = .ok (.dup, 1) := by decide +kernel
theorem dX4_init_50 : decode cX4_init 50 = .ok (.iconst 1, 1) := by decide +kernel
theorem dX4_init_51 : decode cX4_init 51 = .ok (.iconst 0, 1) := by decide +kernel
theorem dX4_init_52 : decode cX4_init 52 = .ok (.iastore, 1) := by decide +kernel
theorem dX4_init_53 : decode cX4_init 53 = .ok (.dup, 1) := by decide +kernel
theorem dX4_init_54 : decode cX4_init 54 = .ok (.iconst 2, 1) := by decide +kernel
theorem dX4_init_55 : decode cX4_init 55 = .ok (.iconst 0, 1) := by decide +kernel
theorem dX4_init_56 : decode cX4_init 56 = .ok (.iastore, 1) := by decide +kernel
theorem dX4_init_57 : decode cX4_init 57 = .ok (.putfield 19, 3) := by decide +kernel
theorem dX4_init_60 : decode cX4_init 60 = .ok (.aload_n 0, 1) := by decide +kernel
theorem dX4_init_61 : decode cX4_init 61 = .ok (.sipush 1581, 3) := by decide +kernel
theorem dX4_init_64 : decode cX4_init 64 = .ok (.newarray .int, 2) := by decide +kernel
theorem dX4_init_66 : decode cX4_init 66 = .ok (.putfield 22, 3) := by decide +kernel
theorem dX4_init_69 : decode cX4_init 69 = .ok (.iconst 0, 1) := by decide +kernel
theorem dX4_init_70 : decode cX4_init 70 = .ok (.istore_n 1, 1) := by decide +kernel
theorem dX4_init_71 : decode cX4_init 71 = .ok (.iload_n 1, 1) := by decide +kernel
theorem dX4_init_72 : decode cX4_init 72 = .ok (.bipush 50, 2) := by decide +kernel
theorem dX4_init_74 : decode cX4_init 74 = .ok (.if_icmp .ge 22, 3) := by decide +kernel
theorem dX4_init_77 : decode cX4_init 77 = .ok (.aload_n 0, 1) := by decide +kernel
theorem dX4_init_78 : decode cX4_init 78 = .ok (.getfield 13, 3) := by decide +kernel
theorem dX4_init_81 : decode cX4_init 81 = .ok (.iload_n 1, 1) := by decide +kernel
theorem dX4_init_82 : decode cX4_init 82 = .ok (.bipush 10, 2) := by decide +kernel
theorem dX4_init_84 : decode cX4_init 84 = .ok (.bipush 8, 2) := by decide +kernel
theorem dX4_init_86 : decode cX4_init 86 = .ok (.iload_n 1, 1) := by decide +kernel
theorem dX4_init_87 : decode cX4_init 87 = .ok (.imul, 1) := by decide +kernel
theorem dX4_init_88 : decode cX4_init 88 = .ok (.iadd, 1) := by decide +kernel
theorem dX4_init_89 : decode cX4_init 89 = .ok (.iastore, 1) := by decide +kernel
theorem dX4_init_90 : decode cX4_init 90 = .ok (.iinc 1 1, 3) := by decide +kernel
theorem dX4_init_93 : decode cX4_init 93 = .ok (.goto (-22), 3) := by decide +kernel
theorem dX4_init_96 : decode cX4_init 96 = .ok (.aload_n 0, 1) := by decide +kernel
theorem dX4_init_97 : decode cX4_init 97 = .ok (.invokevirtual 25, 3) := by decide +kernel
theorem dX4_init_100 : decode cX4_init 100 = .ok (.return_, 1) := by decide +kernel
theorem dX4_thrown_0 : decode cX4_thrown 0 = .ok (.aload_n 0, 1) := by decide +kernel
theorem dX4_thrown_1 : decode cX4_thrown 1 = .ok (.getfield 28, 3) := by decide +kernel
theorem dX4_thrown_4 : decode cX4_thrown 4 = .ok (.ireturn, 1) := by decide +kernel
theorem dX4_fail_0 : decode cX4_fail 0 = .ok (.aload_n 0, 1) := by decide +kernel
theorem dX4_fail_1 : decode cX4_fail 1 = .ok (.iload_n 1, 1) := by decide +kernel
theorem dX4_fail_2 : decode cX4_fail 2 = .ok (.putfield 28, 3) := by decide +kernel
theorem dX4_fail_5 : decode cX4_fail 5 = .ok (.iconst 0, 1) := by decide +kernel
theorem dX4_fail_6 : decode cX4_fail 6 = .ok (.ireturn, 1) := by decide +kernel
theorem dX4_isIn_0 : decode cX4_isIn 0 = .ok (.iload_n 0, 1) := by decide +kernel
theorem dX4_isIn_1 : decode cX4_isIn 1 = .ok (.iload_n 1, 1) := by decide +kernel
theorem dX4_isIn_2 : decode cX4_isIn 2 = .ok (.if_icmp .lt 12, 3) := by decide +kernel
theorem dX4_isIn_5 : decode cX4_isIn 5 = .ok (.iload_n 0, 1) := by decide +kernel
theorem dX4_isIn_6 : decode cX4_isIn 6 = .ok (.iload_n 2, 1) := by decide +kernel
theorem dX4_isIn_7 : decode cX4_isIn 7 = .ok (.if_icmp .gt 7, 3) := by decide +kernel
theorem dX4_isIn_10 : decode cX4_isIn 10 = .ok (.iconst 1, 1) := by decide +kernel
theorem dX4_isIn_11 : decode cX4_isIn 11 = .ok (.goto 4, 3) := by decide +kernel
theorem dX4_isIn_14 : decode cX4_isIn 14 = .ok (.iconst 0, 1) := by decide +kernel
theorem dX4_isIn_15 : decode cX4_isIn 15 = .ok (.ireturn, 1) := by decide +kernel
set_option maxRecDepth 20000 in
theorem ggX4_isAge_X4_isIn : GoodIn wsX4_isAge wsX4_isIn := goodIn_r _ [4] (by decide +kernel) (by decide +kernel)
set_option maxRecDepth 20000 in
theorem gX4_isAge_X4_isIn : GoodIn wsX4_isAge (va_wsS RX4 32 yX4_isIn wsX4_isIn) := goodIn_app (goodIn_of _ (by decide +kernel)) ggX4_isAge_X4_isIn
theorem dX4_isAge_0 : decode cX4_isAge 0 = .ok (.iload_n 0, 1) := by decide +kernel
theorem dX4_isAge_1 : decode cX4_isAge 1 = .ok (.bipush 50, 2) := by decide +kernel
theorem dX4_isAge_3 : decode cX4_isAge 3 = .ok (.bipush 99, 2) := by decide +kernel
theorem dX4_isAge_5 : decode cX4_isAge 5 = .ok (.invokestatic 32, 3) := by decide +kernel
theorem dX4_isAge_8 : decode cX4_isAge 8 = .ok (.ireturn, 1) := by decide +kernel
set_option maxRecDepth 20000 in
theorem ggX4_isLate_X4_isIn : GoodIn wsX4_isLate wsX4_isIn := goodIn_r _ [4] (by decide +kernel) (by decide +kernel)
set_option maxRecDepth 20000 in
theorem gX4_isLate_X4_isIn : GoodIn wsX4_isLate (va_wsS RX4 32 yX4_isIn wsX4_isIn) := goodIn_app (goodIn_of _ (by decide +kernel)) ggX4_isLate_X4_isIn
theorem dX4_isLate_0 : decode cX4_isLate 0 = .ok (.iload_n 0, 1) := by decide +kernel
theorem dX4_isLate_1 : decode cX4_isLate 1 = .ok (.iconst 0, 1) := by decide +kernel
theorem dX4_isLate_2 : decode cX4_isLate 2 = .ok (.bipush 30, 2) := by decide +kernel
theorem dX4_isLate_4 : decode cX4_isLate 4 = .ok (.invokestatic 32, 3) := by decide +kernel
theorem dX4_isLate_7 : decode cX4_isLate 7 = .ok (.ireturn, 1) := by decide +kernel
set_option maxRecDepth 20000 in
theorem ggX4_isSum_X4_isIn : GoodIn wsX4_isSum wsX4_isIn := goodIn_r _ [4] (by decide +kernel) (by decide +kernel)
set_option maxRecDepth 20000 in
theorem gX4_isSum_X4_isIn : GoodIn wsX4_isSum (va_wsS RX4 32 yX4_isIn wsX4_isIn) := goodIn_app (goodIn_of _ (by decide +kernel)) ggX4_isSum_X4_isIn
theorem dX4_isSum_0 : decode cX4_isSum 0 = .ok (.iload_n 0, 1) := by decide +kernel
theorem dX4_isSum_1 : decode cX4_isSum 1 = .ok (.iconst 1, 1) := by decide +kernel
theorem dX4_isSum_2 : decode cX4_isSum 2 = .ok (.sipush 999, 3) := by decide +kernel
theorem dX4_isSum_5 : decode cX4_isSum 5 = .ok (.invokestatic 32, 3) := by decide +kernel
theorem dX4_isSum_8 : decode cX4_isSum 8 = .ok (.ireturn, 1) := by decide +kernel
set_option maxRecDepth 20000 in
theorem ggX4_isWidow_X4_isIn : GoodIn wsX4_isWidow wsX4_isIn := goodIn_r _ [5] (by decide +kernel) (by decide +kernel)
set_option maxRecDepth 20000 in
theorem gX4_isWidow_X4_isIn : GoodIn wsX4_isWidow (va_wsS RX4 32 yX4_isIn wsX4_isIn) := goodIn_app (goodIn_of _ (by decide +kernel)) ggX4_isWidow_X4_isIn
theorem dX4_isWidow_0 : decode cX4_isWidow 0 = .ok (.iload_n 1, 1) := by decide +kernel
theorem dX4_isWidow_1 : decode cX4_isWidow 1 = .ok (.iconst 0, 1) := by decide +kernel
theorem dX4_isWidow_2 : decode cX4_isWidow 2 = .ok (.aload_n 0, 1) := by decide +kernel
theorem dX4_isWidow_3 : decode cX4_isWidow 3 = .ok (.getfield 36, 3) := by decide +kernel
theorem dX4_isWidow_6 : decode cX4_isWidow 6 = .ok (.iconst 1, 1) := by decide +kernel
theorem dX4_isWidow_7 : decode cX4_isWidow 7 = .ok (.isub, 1) := by decide +kernel
theorem dX4_isWidow_8 : decode cX4_isWidow 8 = .ok (.invokestatic 32, 3) := by decide +kernel
theorem dX4_isWidow_11 : decode cX4_isWidow 11 = .ok (.ireturn, 1) := by decide +kernel
theorem dX4_wi_0 : decode cX4_wi 0 = .ok (.aload_n 0, 1) := by decide +kernel
theorem dX4_wi_1 : decode cX4_wi 1 = .ok (.getfield 16, 3) := by decide +kernel
theorem dX4_wi_4 : decode cX4_wi 4 = .ok (.bipush 7, 2) := by decide +kernel

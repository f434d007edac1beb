theorem inJ9 : ∀ w ∈ wsJ90, w ∈ lw_tbl := by decide +kernel
theorem inJ0 : ∀ w ∈ wsJ00, w ∈ lw_tbl := by decide +kernel
theorem inJ10 : ∀ w ∈ wsJ100, w ∈ lw_tbl := by decide +kernel
set_option maxRecDepth 20000 in
theorem ggX0_init_X2_init : GoodIn wsX0_init wsX2_init := goodIn_r _ [10, 11, 2, 3] (by decide +kernel) (by decide +kernel)
set_option maxRecDepth 20000 in
theorem gX0_init_X2_init_n21 : GoodIn wsX0_init (wsX2_init) := ggX0_init_X2_init
theorem dX0_init_0 : decode cX0_init 0 = .ok (.aload_n 0, 1) := by decide +kernel
theorem dX0_init_1 : decode cX0_init 1 = .ok (.invokespecial 3, 3) := by decide +kernel
theorem dX0_init_4 : decode cX0_init 4 = .ok (.aload_n 0, 1) := by decide +kernel
theorem dX0_init_5 : decode cX0_init 5 = .ok (.aload_n 1, 1) := by decide +kernel
theorem dX0_init_6 : decode cX0_init 6 = .ok (.putfield 9, 3) := by decide +kernel
theorem dX0_init_9 : decode cX0_init 9 = .ok (.aload_n 0, 1) := by decide +kernel
theorem dX0_init_10 : decode cX0_init 10 = .ok (.bipush 10, 2) := by decide +kernel
theorem dX0_init_12 : decode cX0_init 12 = .ok (.anewarray 15, 3) := by decide +kernel
theorem dX0_init_15 : decode cX0_init 15 = .ok (.putfield 17, 3) := by decide +kernel
theorem dX0_init_18 : decode cX0_init 18 = .ok (.iconst 0, 1) := by decide +kernel
theorem dX0_init_19 : decode cX0_init 19 = .ok (.istore_n 2, 1) := by decide +kernel
theorem dX0_init_20 : decode cX0_init 20 = .ok (.iload_n 2, 1) := by decide +kernel
theorem dX0_init_21 : decode cX0_init 21 = .ok (.bipush 10, 2) := by decide +kernel
theorem dX0_init_23 : decode cX0_init 23 = .ok (.if_icmp .ge 22, 3) := by decide +kernel
theorem dX0_init_26 : decode cX0_init 26 = .ok (.aload_n 0, 1) := by decide +kernel
theorem dX0_init_27 : decode cX0_init 27 = .ok (.getfield 17, 3) := by decide +kernel
theorem dX0_init_30 : decode cX0_init 30 = .ok (.iload_n 2, 1) := by decide +kernel
theorem dX0_init_31 : decode cX0_init 31 = .ok (.new 15, 3) := by decide +kernel
theorem dX0_init_34 : decode cX0_init 34 = .ok (.dup, 1) := by decide +kernel
theorem dX0_init_35 : decode cX0_init 35 = .ok (.invokespecial 21, 3) := by decide +kernel
theorem dX0_init_38 : decode cX0_init 38 = .ok (.aastore, 1) := by decide +kernel
theorem dX0_init_39 : decode cX0_init 39 = .ok (.iinc 2 1, 3) := by decide +kernel
theorem dX0_init_42 : decode cX0_init 42 = .ok (.goto (-22), 3) := by decide +kernel
theorem dX0_init_45 : decode cX0_init 45 = .ok (.return_, 1) := by decide +kernel
theorem dX0_isFull_0 : decode cX0_isFull 0 = .ok (.aload_n 0, 1) := by decide +kernel
theorem dX0_isFull_1 : decode cX0_isFull 1 = .ok (.getfield 22, 3) := by decide +kernel
theorem dX0_isFull_4 : decode cX0_isFull 4 = .ok (.bipush 10, 2) := by decide +kernel
theorem dX0_isFull_6 : decode cX0_isFull 6 = .ok (.if_icmp .lt 7, 3) := by decide +kernel
theorem dX0_isFull_9 : decode cX0_isFull 9 = .ok (.iconst 1, 1) := by decide +kernel
theorem dX0_isFull_10 : decode cX0_isFull 10 = .ok (.goto 4, 3) := by decide +kernel
theorem dX0_isFull_13 : decode cX0_isFull 13 = .ok (.iconst 0, 1) := by decide +kernel
theorem dX0_isFull_14 : decode cX0_isFull 14 = .ok (.ireturn, 1) := by decide +kernel
theorem dX0_widowAt_0 : decode cX0_widowAt 0 = .ok (.aload_n 0, 1) := by decide +kernel
theorem dX0_widowAt_1 : decode cX0_widowAt 1 = .ok (.getfield 17, 3) := by decide +kernel
theorem dX0_widowAt_4 : decode cX0_widowAt 4 = .ok (.iload_n 1, 1) := by decide +kernel
theorem dX0_widowAt_5 : decode cX0_widowAt 5 = .ok (.ifCond .lt 13, 3) := by decide +kernel
theorem dX0_widowAt_8 : decode cX0_widowAt 8 = .ok (.iload_n 1, 1) := by decide +kernel
theorem dX0_widowAt_9 : decode cX0_widowAt 9 = .ok (.bipush 10, 2) := by decide +kernel
theorem dX0_widowAt_11 : decode cX0_widowAt 11 = .ok (.if_icmp .ge 7, 3) := by decide +kernel
theorem dX0_widowAt_14 : decode cX0_widowAt 14 = .ok (.iload_n 1, 1) := by decide +kernel
theorem dX0_widowAt_15 : decode cX0_widowAt 15 = .ok (.goto 4, 3) := by decide +kernel
theorem dX0_widowAt_18 : decode cX0_widowAt 18 = .ok (.iconst 0, 1) := by decide +kernel
theorem dX0_widowAt_19 : decode cX0_widowAt 19 = .ok (.aaload, 1) := by decide +kernel
theorem dX0_widowAt_20 : decode cX0_widowAt 20 = .ok (.areturn, 1) := by decide +kernel
set_option maxRecDepth 20000 in
theorem ggX0_write_X0_widowAt : GoodIn wsX0_write wsX0_widowAt := goodIn_r _ [7, 8, 27, 28, 29, 30, 31, 32, 33] (by decide +kernel) (by decide +kernel)
set_option maxRecDepth 20000 in
theorem gX0_write_X0_widowAt : GoodIn wsX0_write (wsV RX0 26 RX0 yX0_widowAt wsX0_widowAt) := goodIn_app (goodIn_of _ (by decide +kernel)) ggX0_write_X0_widowAt
set_option maxRecDepth 20000 in
theorem ggX0_write_X2_start : GoodIn wsX0_write wsX2_start := goodIn_r _ [13, 14, 15, 16, 17, 18, 19, 20, 34, 35, 36, 37, 38, 39, 40] (by decide +kernel) (by decide +kernel)
set_option maxRecDepth 20000 in
theorem gX0_write_X2_start : GoodIn wsX0_write (wsV RX0 30 RX2 yX2_start wsX2_start) := goodIn_app (goodIn_of _ (by decide +kernel)) ggX0_write_X2_start
set_option maxRecDepth 20000 in
theorem ggX0_write_X0_takeIn : GoodIn wsX0_write wsX0_takeIn := goodIn_r _ [24, 25, 26, 27, 28, 29, 30, 31, 32, 33] (by decide +kernel) (by decide +kernel)
set_option maxRecDepth 20000 in
theorem gX0_write_X0_takeIn : GoodIn wsX0_write (wsV RX0 37 RX0 yX0_takeIn wsX0_takeIn) := goodIn_app (goodIn_of _ (by decide +kernel)) ggX0_write_X0_takeIn
theorem dX0_write_0 : decode cX0_write 0 = .ok (.aload_n 0, 1) := by decide +kernel
theorem dX0_write_1 : decode cX0_write 1 = .ok (.getfield 22, 3) := by decide +kernel
theorem dX0_write_4 : decode cX0_write 4 = .ok (.istore 5, 2) := by decide +kernel
theorem dX0_write_6 : decode cX0_write 6 = .ok (.aload_n 0, 1) := by decide +kernel
theorem dX0_write_7 : decode cX0_write 7 = .ok (.iload 5, 2) := by decide +kernel
theorem dX0_write_9 : decode cX0_write 9 = .ok (.invokevirtual 26, 3) := by decide +kernel
theorem dX0_write_12 : decode cX0_write 12 = .ok (.iload_n 1, 1) := by decide +kernel
theorem dX0_write_13 : decode cX0_write 13 = .ok (.iload_n 2, 1) := by decide +kernel
theorem dX0_write_14 : decode cX0_write 14 = .ok (.iload_n 3, 1) := by decide +kernel
theorem dX0_write_15 : decode cX0_write 15 = .ok (.iload 4, 2) := by decide +kernel
theorem dX0_write_17 : decode cX0_write 17 = .ok (.invokevirtual 30, 3) := by decide +kernel
theorem dX0_write_20 : decode cX0_write 20 = .ok (.aload_n 0, 1) := by decide +kernel
theorem dX0_write_21 : decode cX0_write 21 = .ok (.dup, 1) := by decide +kernel
theorem dX0_write_22 : decode cX0_write 22 = .ok (.getfield 22, 3) := by decide +kernel
theorem dX0_write_25 : decode cX0_write 25 = .ok (.iconst 1, 1) := by decide +kernel
theorem dX0_write_26 : decode cX0_write 26 = .ok (.iadd, 1) := by decide +kernel
theorem dX0_write_27 : decode cX0_write 27 = .ok (.putfield 22, 3) := by decide +kernel
theorem dX0_write_30 : decode cX0_write 30 = .ok (.aload_n 0, 1) := by decide +kernel
theorem dX0_write_31 : decode cX0_write 31 = .ok (.dup, 1) := by decide +kernel
theorem dX0_write_32 : decode cX0_write 32 = .ok (.getfield 34, 3) := by decide +kernel
theorem dX0_write_35 : decode cX0_write 35 = .ok (.iload 4, 2) := by decide +kernel
theorem dX0_write_37 : decode cX0_write 37 = .ok (.iadd, 1) := by decide +kernel
theorem dX0_write_38 : decode cX0_write 38 = .ok (.putfield 34, 3) := by decide +kernel
theorem dX0_write_41 : decode cX0_write 41 = .ok (.aload_n 0, 1) := by decide +kernel
theorem dX0_write_42 : decode cX0_write 42 = .ok (.iload 4, 2) := by decide +kernel
theorem dX0_write_44 : decode cX0_write 44 = .ok (.invokevirtual 37, 3) := by decide +kernel
theorem dX0_write_47 : decode cX0_write 47 = .ok (.iload 5, 2) := by decide +kernel
theorem dX0_write_49 : decode cX0_write 49 = .ok (.ireturn, 1) := by decide +kernel
theorem dX0_takeIn_0 : decode cX0_takeIn 0 = .ok (.aload_n 0, 1) := by decide +kernel
theorem dX0_takeIn_1 : decode cX0_takeIn 1 = .ok (.getfield 41, 3) := by decide +kernel
theorem dX0_takeIn_4 : decode cX0_takeIn 4 = .ok (.iload_n 1, 1) := by decide +kernel
theorem dX0_takeIn_5 : decode cX0_takeIn 5 = .ok (.iadd, 1) := by decide +kernel
theorem dX0_takeIn_6 : decode cX0_takeIn 6 = .ok (.istore_n 2, 1) := by decide +kernel
theorem dX0_takeIn_7 : decode cX0_takeIn 7 = .ok (.aload_n 0, 1) := by decide +kernel
theorem dX0_takeIn_8 : decode cX0_takeIn 8 = .ok (.iload_n 2, 1) := by decide +kernel
theorem dX0_takeIn_9 : decode cX0_takeIn 9 = .ok (.ldc 44, 2) := by decide +kernel
theorem dX0_takeIn_11 : decode cX0_takeIn 11 = .ok (.if_icmp .le 8, 3) := by decide +kernel
theorem dX0_takeIn_14 : decode cX0_takeIn 14 = .ok (.ldc 44, 2) := by decide +kernel
theorem dX0_takeIn_16 : decode cX0_takeIn 16 = .ok (.goto 4, 3) := by decide +kernel
theorem dX0_takeIn_19 : decode cX0_takeIn 19 = .ok (.iload_n 2, 1) := by decide +kernel
theorem dX0_takeIn_20 : decode cX0_takeIn 20 = .ok (.putfield 41, 3) := by decide +kernel
theorem dX0_takeIn_23 : decode cX0_takeIn 23 = .ok (.return_, 1) := by decide +kernel
theorem dX0_payOut_0 : decode cX0_payOut 0 = .ok (.aload_n 0, 1) := by decide +kernel
theorem dX0_payOut_1 : decode cX0_payOut 1 = .ok (.dup, 1) := by decide +kernel
theorem dX0_payOut_2 : decode cX0_payOut 2 = .ok (.getfield 41, 3) := by decide +kernel
theorem dX0_payOut_5 : decode cX0_payOut 5 = .ok (.iload_n 1, 1) := by decide +kernel
theorem dX0_payOut_6 : decode cX0_payOut 6 = .ok (.isub, 1) := by decide +kernel
theorem dX0_payOut_7 : decode cX0_payOut 7 = .ok (.putfield 41, 3) := by decide +kernel
theorem dX0_payOut_10 : decode cX0_payOut 10 = .ok (.aload_n 0, 1) := by decide +kernel
theorem dX0_payOut_11 : decode cX0_payOut 11 = .ok (.dup, 1) := by decide +kernel
theorem dX0_payOut_12 : decode cX0_payOut 12 = .ok (.getfield 45, 3) := by decide +kernel
theorem dX0_payOut_15 : decode cX0_payOut 15 = .ok (.iload_n 1, 1) := by decide +kernel
theorem dX0_payOut_16 : decode cX0_payOut 16 = .ok (.iadd, 1) := by decide +kernel
theorem dX0_payOut_17 : decode cX0_payOut 17 = .ok (.putfield 45, 3) := by decide +kernel
theorem dX0_payOut_20 : decode cX0_payOut 20 = .ok (.return_, 1) := by decide +kernel
set_option maxRecDepth 20000 in
theorem ggX0_copy_X2_copy : GoodIn wsX0_copy wsX2_copy := goodIn_r _ [11, 12, 13, 14, 15, 16, 17, 18, 26, 27, 28, 29, 30, 31, 32] (by decide +kernel) (by decide +kernel)
set_option maxRecDepth 20000 in
theorem gX0_copy_X2_copy : GoodIn wsX0_copy (wsV RX0 51 RX2 yX2_copy wsX2_copy) := goodIn_app (goodIn_of _ (by decide +kernel)) ggX0_copy_X2_copy
theorem dX0_copy_0 : decode cX0_copy 0 = .ok (.aload_n 0, 1) := by decide +kernel
theorem dX0_copy_1 : decode cX0_copy 1 = .ok (.aload_n 1, 1) := by decide +kernel
theorem dX0_copy_2 : decode cX0_copy 2 = .ok (.getfield 22, 3) := by decide +kernel
theorem dX0_copy_5 : decode cX0_copy 5 = .ok (.putfield 22, 3) := by decide +kernel
theorem dX0_copy_8 : decode cX0_copy 8 = .ok (.aload_n 0, 1) := by decide +kernel
theorem dX0_copy_9 : decode cX0_copy 9 = .ok (.aload_n 1, 1) := by decide +kernel
theorem dX0_copy_10 : decode cX0_copy 10 = .ok (.getfield 41, 3) := by decide +kernel
theorem dX0_copy_13 : decode cX0_copy 13 = .ok (.putfield 41, 3) := by decide +kernel
theorem dX0_copy_16 : decode cX0_copy 16 = .ok (.aload_n 0, 1) := by decide +kernel
theorem dX0_copy_17 : decode cX0_copy 17 = .ok (.aload_n 1, 1) := by decide +kernel
theorem dX0_copy_18 : decode cX0_copy 18 = .ok (.getfield 45, 3) := by decide +kernel
theorem dX0_copy_21 : decode cX0_copy 21 = .ok (.putfield 45, 3) := by decide +kernel
theorem dX0_copy_24 : decode cX0_copy 24 = .ok (.aload_n 0, 1) := by decide +kernel
theorem dX0_copy_25 : decode cX0_copy 25 = .ok (.aload_n 1, 1) := by decide +kernel
theorem dX0_copy_26 : decode cX0_copy 26 = .ok (.getfield 34, 3) := by decide +kernel
theorem dX0_copy_29 : decode cX0_copy 29 = .ok (.putfield 34, 3) := by decide +kernel
theorem dX0_copy_32 : decode cX0_copy 32 = .ok (.aload_n 0, 1) := by decide +kernel
theorem dX0_copy_33 : decode cX0_copy 33 = .ok (.aload_n 1, 1) := by decide +kernel
theorem dX0_copy_34 : decode cX0_copy 34 = .ok (.getfield 48, 3) := by decide +kernel
theorem dX0_copy_37 : decode cX0_copy 37 = .ok (.putfield 48, 3) := by decide +kernel
theorem dX0_copy_40 : decode cX0_copy 40 = .ok (.iconst 0, 1) := by decide +kernel
theorem dX0_copy_41 : decode cX0_copy 41 = .ok (.istore_n 2, 1) := by decide +kernel
theorem dX0_copy_42 : decode cX0_copy 42 = .ok (.iload_n 2, 1) := by decide +kernel
theorem dX0_copy_43 : decode cX0_copy 43 = .ok (.bipush 10, 2) := by decide +kernel
theorem dX0_copy_45 : decode cX0_copy 45 = .ok (.if_icmp .ge 24, 3) := by decide +kernel
theorem dX0_copy_48 : decode cX0_copy 48 = .ok (.aload_n 0, 1) := by decide +kernel
theorem dX0_copy_49 : decode cX0_copy 49 = .ok (.getfield 17, 3) := by decide +kernel
theorem dX0_copy_52 : decode cX0_copy 52 = .ok (.iload_n 2, 1) := by decide +kernel
theorem dX0_copy_53 : decode cX0_copy 53 = .ok (.aaload, 1) := by decide +kernel
theorem dX0_copy_54 : decode cX0_copy 54 = .ok (.aload_n 1, 1) := by decide +kernel
theorem dX0_copy_55 : decode cX0_copy 55 = .ok (.getfield 17, 3) := by decide +kernel
theorem dX0_copy_58 : decode cX0_copy 58 = .ok (.iload_n 2, 1) := by decide +kernel
theorem dX0_copy_59 : decode cX0_copy 59 = .ok (.aaload, 1) := by decide +kernel
theorem dX0_copy_60 : decode cX0_copy 60 = .ok (.invokevirtual 51, 3) := by decide +kernel
theorem dX0_copy_63 : decode cX0_copy 63 = .ok (.iinc 2 1, 3) := by decide +kernel
theorem dX0_copy_66 : decode cX0_copy 66 = .ok (.goto (-24), 3) := by decide +kernel
theorem dX0_copy_69 : decode cX0_copy 69 = .ok (.return_, 1) := by decide +kernel
set_option maxRecDepth 20000 in
theorem ggX0_passYears_X0_passYear : GoodIn wsX0_passYears wsX0_passYear := goodIn_r _ [5, 6, 7, 8, 9, 10, 11, 12, 13, 14, 15, 16, 17, 18, 19, 4, 20, 21, 22, 23, 24, 25, 26, 27, 28, 29, 30, 31, 32, 33, 34, 35, 36, 37, 38, 39, 40, 41, 42, 43, 44, 45, 46, 47, 48, 49, 50, 51, 52, 53, 54, 55, 56, 57, 58, 59, 60, 61, 62] (by decide +kernel) (by decide +kernel)
set_option maxRecDepth 20000 in
theorem gX0_passYears_X0_passYear : GoodIn wsX0_passYears (wsV RX0 55 RX0 yX0_passYear wsX0_passYear) := goodIn_app (goodIn_of _ (by decide +kernel)) ggX0_passYears_X0_passYear
theorem dX0_passYears_0 : decode cX0_passYears 0 = .ok (.iconst 0, 1) := by decide +kernel
theorem dX0_passYears_1 : decode cX0_passYears 1 = .ok (.istore_n 2, 1) := by decide +kernel
theorem dX0_passYears_2 : decode cX0_passYears 2 = .ok (.iload_n 2, 1) := by decide +kernel
theorem dX0_passYears_3 : decode cX0_passYears 3 = .ok (.iload_n 1, 1) := by decide +kernel
theorem dX0_passYears_4 : decode cX0_passYears 4 = .ok (.if_icmp .ge 13, 3) := by decide +kernel
theorem dX0_passYears_7 : decode cX0_passYears 7 = .ok (.aload_n 0, 1) := by decide +kernel
theorem dX0_passYears_8 : decode cX0_passYears 8 = .ok (.invokevirtual 55, 3) := by decide +kernel
theorem dX0_passYears_11 : decode cX0_passYears 11 = .ok (.iinc 2 1, 3) := by decide +kernel
theorem dX0_passYears_14 : decode cX0_passYears 14 = .ok (.goto (-12), 3) := by decide +kernel
theorem dX0_passYears_17 : decode cX0_passYears 17 = .ok (.return_, 1) := by decide +kernel
set_option maxRecDepth 20000 in
theorem ggX0_passYear_X1_rate : GoodIn wsX0_passYear wsX1_rate := goodIn_r _ [10, 11, 50, 51] (by decide +kernel) (by decide +kernel)
set_option maxRecDepth 20000 in
theorem gX0_passYear_X1_rate : GoodIn wsX0_passYear (wsV RX0 58 RX1 yX1_rate wsX1_rate) := goodIn_app (goodIn_of _ (by decide +kernel)) ggX0_passYear_X1_rate
set_option maxRecDepth 20000 in
theorem ggX0_passYear_X0_takeIn : GoodIn wsX0_passYear wsX0_takeIn := goodIn_r _ [16, 1, 17, 43, 44, 45, 46, 47, 48, 49] (by decide +kernel) (by decide +kernel)
set_option maxRecDepth 20000 in
theorem gX0_passYear_X0_takeIn : GoodIn wsX0_passYear (wsV RX0 37 RX0 yX0_takeIn wsX0_takeIn) := goodIn_app (goodIn_of _ (by decide +kernel)) ggX0_passYear_X0_takeIn
set_option maxRecDepth 20000 in
theorem ggX0_passYear_X0_widowAt : GoodIn wsX0_passYear wsX0_widowAt := goodIn_r _ [21, 22, 43, 44, 45, 46, 47, 48, 49] (by decide +kernel) (by decide +kernel)
set_option maxRecDepth 20000 in
theorem gX0_passYear_X0_widowAt : GoodIn wsX0_passYear (wsV RX0 26 RX0 yX0_widowAt wsX0_widowAt) := goodIn_app (goodIn_of _ (by decide +kernel)) ggX0_passYear_X0_widowAt
set_option maxRecDepth 20000 in
theorem ggX0_passYear_X2_lives : GoodIn wsX0_passYear wsX2_lives := goodIn_r _ [27, 28, 52, 53, 54, 55, 56, 57, 58] (by decide +kernel) (by decide +kernel)
set_option maxRecDepth 20000 in
theorem gX0_passYear_X2_lives : GoodIn wsX0_passYear (wsV RX0 66 RX2 yX2_lives wsX2_lives) := goodIn_app (goodIn_of _ (by decide +kernel)) ggX0_passYear_X2_lives
set_option maxRecDepth 20000 in
theorem ggX0_passYear_X2_liveYear : GoodIn wsX0_passYear wsX2_liveYear := goodIn_r _ [32, 33, 34, 35, 36, 37, 28, 52, 53, 54, 55, 56, 57, 58] (by decide +kernel) (by decide +kernel)
set_option maxRecDepth 20000 in
theorem gX0_passYear_X2_liveYear : GoodIn wsX0_passYear (wsV RX0 70 RX2 yX2_liveYear wsX2_liveYear) := goodIn_app (goodIn_of _ (by decide +kernel)) ggX0_passYear_X2_liveYear
set_option maxRecDepth 20000 in
theorem ggX0_passYear_X0_payOut : GoodIn wsX0_passYear wsX0_payOut := goodIn_r _ [41, 1, 42, 43, 44, 45, 46, 47, 48, 49] (by decide +kernel) (by decide +kernel)
set_option maxRecDepth 20000 in
theorem gX0_passYear_X0_payOut : GoodIn wsX0_passYear (wsV RX0 74 RX0 yX0_payOut wsX0_payOut) := goodIn_app (goodIn_of _ (by decide +kernel)) ggX0_passYear_X0_payOut
theorem dX0_passYear_0 : decode cX0_passYear 0 = .ok (.aload_n 0, 1) := by decide +kernel
theorem dX0_passYear_1 : decode cX0_passYear 1 = .ok (.getfield 41, 3) := by decide +kernel
theorem dX0_passYear_4 : decode cX0_passYear 4 = .ok (.ifCond .le 27, 3) := by decide +kernel
theorem dX0_passYear_7 : decode cX0_passYear 7 = .ok (.aload_n 0, 1) := by decide +kernel
theorem dX0_passYear_8 : decode cX0_passYear 8 = .ok (.aload_n 0, 1) := by decide +kernel
theorem dX0_passYear_9 : decode cX0_passYear 9 = .ok (.getfield 41, 3) := by decide +kernel
theorem dX0_passYear_12 : decode cX0_passYear 12 = .ok (.i2l, 1) := by decide +kernel
theorem dX0_passYear_13 : decode cX0_passYear 13 = .ok (.aload_n 0, 1) := by decide +kernel
theorem dX0_passYear_14 : decode cX0_passYear 14 = .ok (.getfield 9, 3) := by decide +kernel
theorem dX0_passYear_17 : decode cX0_passYear 17 = .ok (.iconst 0, 1) := by decide +kernel
theorem dX0_passYear_18 : decode cX0_passYear 18 = .ok (.invokevirtual 58, 3) := by decide +kernel
theorem dX0_passYear_21 : decode cX0_passYear 21 = .ok (.i2l, 1) := by decide +kernel
theorem dX0_passYear_22 : decode cX0_passYear 22 = .ok (.lmul, 1) := by decide +kernel
theorem dX0_passYear_23 : decode cX0_passYear 23 = .ok (.ldc2_w 64, 3) := by decide +kernel
theorem dX0_passYear_26 : decode cX0_passYear 26 = .ok (.ldiv, 1) := by decide +kernel
theorem dX0_passYear_27 : decode cX0_passYear 27 = .ok (.l2i, 1) := by decide +kernel
theorem dX0_passYear_28 : decode cX0_passYear 28 = .ok (.invokevirtual 37, 3) := by decide +kernel
theorem dX0_passYear_31 : decode cX0_passYear 31 = .ok (.iconst 0, 1) := by decide +kernel
theorem dX0_passYear_32 : decode cX0_passYear 32 = .ok (.istore_n 1, 1) := by decide +kernel
theorem dX0_passYear_33 : decode cX0_passYear 33 = .ok (.iload_n 1, 1) := by decide +kernel
theorem dX0_passYear_34 : decode cX0_passYear 34 = .ok (.aload_n 0, 1) := by decide +kernel
theorem dX0_passYear_35 : decode cX0_passYear 35 = .ok (.getfield 22, 3) := by decide +kernel
theorem dX0_passYear_38 : decode cX0_passYear 38 = .ok (.if_icmp .ge 30, 3) := by decide +kernel
theorem dX0_passYear_41 : decode cX0_passYear 41 = .ok (.aload_n 0, 1) := by decide +kernel
theorem dX0_passYear_42 : decode cX0_passYear 42 = .ok (.iload_n 1, 1) := by decide +kernel
theorem dX0_passYear_43 : decode cX0_passYear 43 = .ok (.invokevirtual 26, 3) := by decide +kernel
theorem dX0_passYear_46 : decode cX0_passYear 46 = .ok (.astore_n 2, 1) := by decide +kernel
theorem dX0_passYear_47 : decode cX0_passYear 47 = .ok (.aload_n 2, 1) := by decide +kernel
theorem dX0_passYear_48 : decode cX0_passYear 48 = .ok (.invokevirtual 66, 3) := by decide +kernel
theorem dX0_passYear_51 : decode cX0_passYear 51 = .ok (.ifCond .eq 11, 3) := by decide +kernel
theorem dX0_passYear_54 : decode cX0_passYear 54 = .ok (.aload_n 0, 1) := by decide +kernel
theorem dX0_passYear_55 : decode cX0_passYear 55 = .ok (.aload_n 2, 1) := by decide +kernel
theorem dX0_passYear_56 : decode cX0_passYear 56 = .ok (.invokevirtual 70, 3) := by decide +kernel
theorem dX0_passYear_59 : decode cX0_passYear 59 = .ok (.invokevirtual 74, 3) := by decide +kernel
theorem dX0_passYear_62 : decode cX0_passYear 62 = .ok (.iinc 1 1, 3) := by decide +kernel
theorem dX0_passYear_65 : decode cX0_passYear 65 = .ok (.goto (-32), 3) := by decide +kernel
theorem dX0_passYear_68 : decode cX0_passYear 68 = .ok (.aload_n 0, 1) := by decide +kernel
theorem dX0_passYear_69 : decode cX0_passYear 69 = .ok (.dup, 1) := by decide +kernel
theorem dX0_passYear_70 : decode cX0_passYear 70 = .ok (.getfield 48, 3) := by decide +kernel
theorem dX0_passYear_73 : decode cX0_passYear 73 = .ok (.iconst 1, 1) := by decide +kernel
theorem dX0_passYear_74 : decode cX0_passYear 74 = .ok (.iadd, 1) := by decide +kernel
theorem dX0_passYear_75 : decode cX0_passYear 75 = .ok (.putfield 48, 3) := by decide +kernel
theorem dX0_passYear_78 : decode cX0_passYear 78 = .ok (.return_, 1) := by decide +kernel
set_option maxRecDepth 20000 in
theorem ggX0_tell_X0_living : GoodIn wsX0_tell wsX0_living := goodIn_r _ [11, 2, 12, 13, 14, 10, 15, 16, 17, 18, 19, 20, 21, 22, 59, 60, 61, 62, 63, 64, 65, 66, 67, 68, 69, 70, 71, 72] (by decide +kernel) (by decide +kernel)
set_option maxRecDepth 20000 in
theorem gX0_tell_X0_living : GoodIn wsX0_tell (wsV RX0 77 RX0 yX0_living wsX0_living) := goodIn_app (goodIn_of _ (by decide +kernel)) ggX0_tell_X0_living
set_option maxRecDepth 20000 in
theorem ggX0_tell_X1_rate : GoodIn wsX0_tell wsX1_rate := goodIn_r _ [27, 28, 73, 74] (by decide +kernel) (by decide +kernel)
set_option maxRecDepth 20000 in
theorem gX0_tell_X1_rate : GoodIn wsX0_tell (wsV RX0 58 RX1 yX1_rate wsX1_rate) := goodIn_app (goodIn_of _ (by decide +kernel)) ggX0_tell_X1_rate
set_option maxRecDepth 20000 in
theorem ggX0_tell_X0_keptForAll : GoodIn wsX0_tell wsX0_keptForAll := goodIn_r _ [32, 2, 4, 12, 13, 14, 10, 15, 16, 33, 34, 35, 26, 36, 37, 38, 39, 40, 18, 19, 20, 21, 22, 41, 42, 43, 44, 45, 46, 47, 48, 49, 50, 51, 52, 59, 60, 61, 62, 63, 64, 65, 66, 67, 68, 69, 70, 71, 72, 73, 74] (by decide +kernel) (by decide +kernel)
set_option maxRecDepth 20000 in
theorem gX0_tell_X0_keptForAll : GoodIn wsX0_tell (wsV RX0 80 RX0 yX0_keptForAll wsX0_keptForAll) := goodIn_app (goodIn_of _ (by decide +kernel)) ggX0_tell_X0_keptForAll
set_option maxRecDepth 20000 in
theorem ggX0_tell_X0_sumsDue : GoodIn wsX0_tell wsX0_sumsDue := goodIn_r _ [56, 2, 57, 58, 12, 13, 14, 10, 15, 16, 17, 18, 19, 20, 21, 22, 59, 60, 61, 62, 63, 64, 65, 66, 67, 68, 69, 70, 71, 72] (by decide +kernel) (by decide +kernel)
set_option maxRecDepth 20000 in
theorem gX0_tell_X0_sumsDue : GoodIn wsX0_tell (wsV RX0 83 RX0 yX0_sumsDue wsX0_sumsDue) := goodIn_app (goodIn_of _ (by decide +kernel)) ggX0_tell_X0_sumsDue
theorem dX0_tell_0 : decode cX0_tell 0 = .ok (.iload_n 1, 1) := by decide +kernel
theorem dX0_tell_1 : decode cX0_tell 1 = .ok (.tableswitch 108 0 7 #[47, 52, 57, 62, 67, 80, 98, 103], 47) := by decide +kernel
theorem dX0_tell_48 : decode cX0_tell 48 = .ok (.aload_n 0, 1) := by decide +kernel
theorem dX0_tell_49 : decode cX0_tell 49 = .ok (.getfield 48, 3) := by decide +kernel
theorem dX0_tell_52 : decode cX0_tell 52 = .ok (.ireturn, 1) := by decide +kernel
theorem dX0_tell_53 : decode cX0_tell 53 = .ok (.aload_n 0, 1) := by decide +kernel
theorem dX0_tell_54 : decode cX0_tell 54 = .ok (.getfield 22, 3) := by decide +kernel
theorem dX0_tell_57 : decode cX0_tell 57 = .ok (.ireturn, 1) := by decide +kernel
theorem dX0_tell_58 : decode cX0_tell 58 = .ok (.aload_n 0, 1) := by decide +kernel
theorem dX0_tell_59 : decode cX0_tell 59 = .ok (.invokevirtual 77, 3) := by decide +kernel
theorem dX0_tell_62 : decode cX0_tell 62 = .ok (.ireturn, 1) := by decide +kernel
theorem dX0_tell_63 : decode cX0_tell 63 = .ok (.aload_n 0, 1) := by decide +kernel
theorem dX0_tell_64 : decode cX0_tell 64 = .ok (.getfield 41, 3) := by decide +kernel
theorem dX0_tell_67 : decode cX0_tell 67 = .ok (.ireturn, 1) := by decide +kernel
theorem dX0_tell_68 : decode cX0_tell 68 = .ok (.aload_n 0, 1) := by decide +kernel
theorem dX0_tell_69 : decode cX0_tell 69 = .ok (.aload_n 0, 1) := by decide +kernel
theorem dX0_tell_70 : decode cX0_tell 70 = .ok (.getfield 9, 3) := by decide +kernel
theorem dX0_tell_73 : decode cX0_tell 73 = .ok (.iconst 0, 1) := by decide +kernel
theorem dX0_tell_74 : decode cX0_tell 74 = .ok (.invokevirtual 58, 3) := by decide +kernel
theorem dX0_tell_77 : decode cX0_tell 77 = .ok (.invokevirtual 80, 3) := by decide +kernel
theorem dX0_tell_80 : decode cX0_tell 80 = .ok (.ireturn, 1) := by decide +kernel
theorem dX0_tell_81 : decode cX0_tell 81 = .ok (.aload_n 0, 1) := by decide +kernel
theorem dX0_tell_82 : decode cX0_tell 82 = .ok (.getfield 41, 3) := by decide +kernel
theorem dX0_tell_85 : decode cX0_tell 85 = .ok (.aload_n 0, 1) := by decide +kernel
theorem dX0_tell_86 : decode cX0_tell 86 = .ok (.aload_n 0, 1) := by decide +kernel
theorem dX0_tell_87 : decode cX0_tell 87 = .ok (.getfield 9, 3) := by decide +kernel
theorem dX0_tell_90 : decode cX0_tell 90 = .ok (.iconst 0, 1) := by decide +kernel
theorem dX0_tell_91 : decode cX0_tell 91 = .ok (.invokevirtual 58, 3) := by decide +kernel
theorem dX0_tell_94 : decode cX0_tell 94 = .ok (.invokevirtual 80, 3) := by decide +kernel
theorem dX0_tell_97 : decode cX0_tell 97 = .ok (.isub, 1) := by decide +kernel
theorem dX0_tell_98 : decode cX0_tell 98 = .ok (.ireturn, 1) := by decide +kernel
theorem dX0_tell_99 : decode cX0_tell 99 = .ok (.aload_n 0, 1) := by decide +kernel
theorem dX0_tell_100 : decode cX0_tell 100 = .ok (.invokevirtual 83, 3) := by decide +kernel
theorem dX0_tell_103 : decode cX0_tell 103 = .ok (.ireturn, 1) := by decide +kernel
theorem dX0_tell_104 : decode cX0_tell 104 = .ok (.aload_n 0, 1) := by decide +kernel
theorem dX0_tell_105 : decode cX0_tell 105 = .ok (.getfield 45, 3) := by decide +kernel
theorem dX0_tell_108 : decode cX0_tell 108 = .ok (.ireturn, 1) := by decide +kernel
theorem dX0_tell_109 : decode cX0_tell 109 = .ok (.aload_n 0, 1) := by decide +kernel
theorem dX0_tell_110 : decode cX0_tell 110 = .ok (.getfield 34, 3) := by decide +kernel
theorem dX0_tell_113 : decode cX0_tell 113 = .ok (.ireturn, 1) := by decide +kernel
set_option maxRecDepth 20000 in
theorem ggX0_keptForAll_X0_widowAt : GoodIn wsX0_keptForAll wsX0_widowAt := goodIn_r _ [7, 8, 35, 36, 37, 38, 39, 40, 41] (by decide +kernel) (by decide +kernel)
set_option maxRecDepth 20000 in
theorem gX0_keptForAll_X0_widowAt : GoodIn wsX0_keptForAll (wsV RX0 26 RX0 yX0_widowAt wsX0_widowAt) := goodIn_app (goodIn_of _ (by decide +kernel)) ggX0_keptForAll_X0_widowAt
set_option maxRecDepth 20000 in
theorem ggX0_keptForAll_X1_keptWith : GoodIn wsX0_keptForAll wsX1_keptWith := goodIn_r _ [13, 14, 15, 16, 17, 18, 19, 20, 21, 22, 23, 24, 25, 12, 26, 27, 28, 29, 30, 31, 32, 33, 34, 42, 43, 44, 45, 46, 47, 48, 49, 50] (by decide +kernel) (by decide +kernel)
set_option maxRecDepth 20000 in
theorem gX0_keptForAll_X1_keptWith : GoodIn wsX0_keptForAll (wsV RX0 86 RX1 yX1_keptWith wsX1_keptWith) := goodIn_app (goodIn_of _ (by decide +kernel)) ggX0_keptForAll_X1_keptWith
theorem dX0_keptForAll_0 : decode cX0_keptForAll 0 = .ok (.iconst 0, 1) := by decide +kernel
theorem dX0_keptForAll_1 : decode cX0_keptForAll 1 = .ok (.istore_n 2, 1) := by decide +kernel
theorem dX0_keptForAll_2 : decode cX0_keptForAll 2 = .ok (.iconst 0, 1) := by decide +kernel
theorem dX0_keptForAll_3 : decode cX0_keptForAll 3 = .ok (.istore_n 3, 1) := by decide +kernel
theorem dX0_keptForAll_4 : decode cX0_keptForAll 4 = .ok (.iload_n 3, 1) := by decide +kernel
theorem dX0_keptForAll_5 : decode cX0_keptForAll 5 = .ok (.aload_n 0, 1) := by decide +kernel
theorem dX0_keptForAll_6 : decode cX0_keptForAll 6 = .ok (.getfield 22, 3) := by decide +kernel
theorem dX0_keptForAll_9 : decode cX0_keptForAll 9 = .ok (.if_icmp .ge 25, 3) := by decide +kernel
theorem dX0_keptForAll_12 : decode cX0_keptForAll 12 = .ok (.iload_n 2, 1) := by decide +kernel
theorem dX0_keptForAll_13 : decode cX0_keptForAll 13 = .ok (.aload_n 0, 1) := by decide +kernel
theorem dX0_keptForAll_14 : decode cX0_keptForAll 14 = .ok (.getfield 9, 3) := by decide +kernel
theorem dX0_keptForAll_17 : decode cX0_keptForAll 17 = .ok (.aload_n 0, 1) := by decide +kernel
theorem dX0_keptForAll_18 : decode cX0_keptForAll 18 = .ok (.iload_n 3, 1) := by decide +kernel
theorem dX0_keptForAll_19 : decode cX0_keptForAll 19 = .ok (.invokevirtual 26, 3) := by decide +kernel
theorem dX0_keptForAll_22 : decode cX0_keptForAll 22 = .ok (.iload_n 1, 1) := by decide +kernel
theorem dX0_keptForAll_23 : decode cX0_keptForAll 23 = .ok (.invokevirtual 86, 3) := by decide +kernel
theorem dX0_keptForAll_26 : decode cX0_keptForAll 26 = .ok (.iadd, 1) := by decide +kernel
theorem dX0_keptForAll_27 : decode cX0_keptForAll 27 = .ok (.istore_n 2, 1) := by decide +kernel
theorem dX0_keptForAll_28 : decode cX0_keptForAll 28 = .ok (.iinc 3 1, 3) := by decide +kernel
theorem dX0_keptForAll_31 : decode cX0_keptForAll 31 = .ok (.goto (-27), 3) := by decide +kernel
theorem dX0_keptForAll_34 : decode cX0_keptForAll 34 = .ok (.iload_n 2, 1) := by decide +kernel
theorem dX0_keptForAll_35 : decode cX0_keptForAll 35 = .ok (.ireturn, 1) := by decide +kernel
set_option maxRecDepth 20000 in
theorem ggX0_living_X0_widowAt : GoodIn wsX0_living wsX0_widowAt := goodIn_r _ [6, 7, 14, 15, 16, 17, 18, 19, 20] (by decide +kernel) (by decide +kernel)
set_option maxRecDepth 20000 in
theorem gX0_living_X0_widowAt : GoodIn wsX0_living (wsV RX0 26 RX0 yX0_widowAt wsX0_widowAt) := goodIn_app (goodIn_of _ (by decide +kernel)) ggX0_living_X0_widowAt
set_option maxRecDepth 20000 in
theorem ggX0_living_X2_lives : GoodIn wsX0_living wsX2_lives := goodIn_r _ [12, 13, 21, 22, 23, 24, 25, 26, 27] (by decide +kernel) (by decide +kernel)
set_option maxRecDepth 20000 in
theorem gX0_living_X2_lives : GoodIn wsX0_living (wsV RX0 66 RX2 yX2_lives wsX2_lives) := goodIn_app (goodIn_of _ (by decide +kernel)) ggX0_living_X2_lives
theorem dX0_living_0 : decode cX0_living 0 = .ok (.iconst 0, 1) := by decide +kernel
theorem dX0_living_1 : decode cX0_living 1 = .ok (.istore_n 1, 1) := by decide +kernel
theorem dX0_living_2 : decode cX0_living 2 = .ok (.iconst 0, 1) := by decide +kernel
theorem dX0_living_3 : decode cX0_living 3 = .ok (.istore_n 2, 1) := by decide +kernel
theorem dX0_living_4 : decode cX0_living 4 = .ok (.iload_n 2, 1) := by decide +kernel
theorem dX0_living_5 : decode cX0_living 5 = .ok (.aload_n 0, 1) := by decide +kernel
theorem dX0_living_6 : decode cX0_living 6 = .ok (.getfield 22, 3) := by decide +kernel
theorem dX0_living_9 : decode cX0_living 9 = .ok (.if_icmp .ge 23, 3) := by decide +kernel
theorem dX0_living_12 : decode cX0_living 12 = .ok (.aload_n 0, 1) := by decide +kernel
theorem dX0_living_13 : decode cX0_living 13 = .ok (.iload_n 2, 1) := by decide +kernel
theorem dX0_living_14 : decode cX0_living 14 = .ok (.invokevirtual 26, 3) := by decide +kernel
theorem dX0_living_17 : decode cX0_living 17 = .ok (.invokevirtual 66, 3) := by decide +kernel
theorem dX0_living_20 : decode cX0_living 20 = .ok (.ifCond .eq 6, 3) := by decide +kernel
theorem dX0_living_23 : decode cX0_living 23 = .ok (.iinc 1 1, 3) := by decide +kernel
theorem dX0_living_26 : decode cX0_living 26 = .ok (.iinc 2 1, 3) := by decide +kernel
theorem dX0_living_29 : decode cX0_living 29 = .ok (.goto (-25), 3) := by decide +kernel
theorem dX0_living_32 : decode cX0_living 32 = .ok (.iload_n 1, 1) := by decide +kernel
theorem dX0_living_33 : decode cX0_living 33 = .ok (.ireturn, 1) := by decide +kernel
set_option maxRecDepth 20000 in
theorem ggX0_agesOfLiving_X0_widowAt : GoodIn wsX0_agesOfLiving wsX0_widowAt := goodIn_r _ [7, 8, 15, 16, 17, 18, 19, 20, 21] (by decide +kernel) (by decide +kernel)
set_option maxRecDepth 20000 in
theorem gX0_agesOfLiving_X0_widowAt : GoodIn wsX0_agesOfLiving (wsV RX0 26 RX0 yX0_widowAt wsX0_widowAt) := goodIn_app (goodIn_of _ (by decide +kernel)) ggX0_agesOfLiving_X0_widowAt
set_option maxRecDepth 20000 in
theorem ggX0_agesOfLiving_X2_lives : GoodIn wsX0_agesOfLiving wsX2_lives := goodIn_r _ [13, 14, 22, 23, 24, 25, 26, 27, 28] (by decide +kernel) (by decide +kernel)
set_option maxRecDepth 20000 in
theorem gX0_agesOfLiving_X2_lives : GoodIn wsX0_agesOfLiving (wsV RX0 66 RX2 yX2_lives wsX2_lives) := goodIn_app (goodIn_of _ (by decide +kernel)) ggX0_agesOfLiving_X2_lives
theorem dX0_agesOfLiving_0 : decode cX0_agesOfLiving 0 = .ok (.iconst 0, 1) := by decide +kernel
theorem dX0_agesOfLiving_1 : decode cX0_agesOfLiving 1 = .ok (.istore_n 1, 1) := by decide +kernel
theorem dX0_agesOfLiving_2 : decode cX0_agesOfLiving 2 = .ok (.iconst 0, 1) := by decide +kernel
theorem dX0_agesOfLiving_3 : decode cX0_agesOfLiving 3 = .ok (.istore_n 2, 1) := by decide +kernel
theorem dX0_agesOfLiving_4 : decode cX0_agesOfLiving 4 = .ok (.iload_n 2, 1) := by decide +kernel
theorem dX0_agesOfLiving_5 : decode cX0_agesOfLiving 5 = .ok (.aload_n 0, 1) := by decide +kernel
theorem dX0_agesOfLiving_6 : decode cX0_agesOfLiving 6 = .ok (.getfield 22, 3) := by decide +kernel
theorem dX0_agesOfLiving_9 : decode cX0_agesOfLiving 9 = .ok (.if_icmp .ge 29, 3) := by decide +kernel
theorem dX0_agesOfLiving_12 : decode cX0_agesOfLiving 12 = .ok (.aload_n 0, 1) := by decide +kernel
theorem dX0_agesOfLiving_13 : decode cX0_agesOfLiving 13 = .ok (.iload_n 2, 1) := by decide +kernel
theorem dX0_agesOfLiving_14 : decode cX0_agesOfLiving 14 = .ok (.invokevirtual 26, 3) := by decide +kernel
theorem dX0_agesOfLiving_17 : decode cX0_agesOfLiving 17 = .ok (.astore_n 3, 1) := by decide +kernel
theorem dX0_agesOfLiving_18 : decode cX0_agesOfLiving 18 = .ok (.aload_n 3, 1) := by decide +kernel
theorem dX0_agesOfLiving_19 : decode cX0_agesOfLiving 19 = .ok (.invokevirtual 66, 3) := by decide +kernel
theorem dX0_agesOfLiving_22 : decode cX0_agesOfLiving 22 = .ok (.ifCond .eq 10, 3) := by decide +kernel
theorem dX0_agesOfLiving_25 : decode cX0_agesOfLiving 25 = .ok (.iload_n 1, 1) := by decide +kernel
theorem dX0_agesOfLiving_26 : decode cX0_agesOfLiving 26 = .ok (.aload_n 3, 1) := by decide +kernel
theorem dX0_agesOfLiving_27 : decode cX0_agesOfLiving 27 = .ok (.getfield 90, 3) := by decide +kernel
theorem dX0_agesOfLiving_30 : decode cX0_agesOfLiving 30 = .ok (.iadd, 1) := by decide +kernel
theorem dX0_agesOfLiving_31 : decode cX0_agesOfLiving 31 = .ok (.istore_n 1, 1) := by decide +kernel
theorem dX0_agesOfLiving_32 : decode cX0_agesOfLiving 32 = .ok (.iinc 2 1, 3) := by decide +kernel
theorem dX0_agesOfLiving_35 : decode cX0_agesOfLiving 35 = .ok (.goto (-31), 3) := by decide +kernel
theorem dX0_agesOfLiving_38 : decode cX0_agesOfLiving 38 = .ok (.iload_n 1, 1) := by decide +kernel
theorem dX0_agesOfLiving_39 : decode cX0_agesOfLiving 39 = .ok (.ireturn, 1) := by decide +kernel
set_option maxRecDepth 20000 in
theorem ggX0_sumsDue_X0_widowAt : GoodIn wsX0_sumsDue wsX0_widowAt := goodIn_r _ [8, 9, 16, 17, 18, 19, 20, 21, 22] (by decide +kernel) (by decide +kernel)
set_option maxRecDepth 20000 in
theorem gX0_sumsDue_X0_widowAt : GoodIn wsX0_sumsDue (wsV RX0 26 RX0 yX0_widowAt wsX0_widowAt) := goodIn_app (goodIn_of _ (by decide +kernel)) ggX0_sumsDue_X0_widowAt
set_option maxRecDepth 20000 in
theorem ggX0_sumsDue_X2_lives : GoodIn wsX0_sumsDue wsX2_lives := goodIn_r _ [14, 15, 23, 24, 25, 26, 27, 28, 29] (by decide +kernel) (by decide +kernel)
set_option maxRecDepth 20000 in
theorem gX0_sumsDue_X2_lives : GoodIn wsX0_sumsDue (wsV RX0 66 RX2 yX2_lives wsX2_lives) := goodIn_app (goodIn_of _ (by decide +kernel)) ggX0_sumsDue_X2_lives
theorem dX0_sumsDue_0 : decode cX0_sumsDue 0 = .ok (.iconst 0, 1) := by decide +kernel
theorem dX0_sumsDue_1 : decode cX0_sumsDue 1 = .ok (.istore_n 1, 1) := by decide +kernel
theorem dX0_sumsDue_2 : decode cX0_sumsDue 2 = .ok (.iconst 0, 1) := by decide +kernel
theorem dX0_sumsDue_3 : decode cX0_sumsDue 3 = .ok (.istore_n 2, 1) := by decide +kernel
theorem dX0_sumsDue_4 : decode cX0_sumsDue 4 = .ok (.iload_n 2, 1) := by decide +kernel
theorem dX0_sumsDue_5 : decode cX0_sumsDue 5 = .ok (.aload_n 0, 1) := by decide +kernel
theorem dX0_sumsDue_6 : decode cX0_sumsDue 6 = .ok (.getfield 22, 3) := by decide +kernel
theorem dX0_sumsDue_9 : decode cX0_sumsDue 9 = .ok (.if_icmp .ge 36, 3) := by decide +kernel
theorem dX0_sumsDue_12 : decode cX0_sumsDue 12 = .ok (.aload_n 0, 1) := by decide +kernel
theorem dX0_sumsDue_13 : decode cX0_sumsDue 13 = .ok (.iload_n 2, 1) := by decide +kernel
theorem dX0_sumsDue_14 : decode cX0_sumsDue 14 = .ok (.invokevirtual 26, 3) := by decide +kernel
theorem dX0_sumsDue_17 : decode cX0_sumsDue 17 = .ok (.astore_n 3, 1) := by decide +kernel
theorem dX0_sumsDue_18 : decode cX0_sumsDue 18 = .ok (.aload_n 3, 1) := by decide +kernel
theorem dX0_sumsDue_19 : decode cX0_sumsDue 19 = .ok (.invokevirtual 66, 3) := by decide +kernel
theorem dX0_sumsDue_22 : decode cX0_sumsDue 22 = .ok (.ifCond .eq 17, 3) := by decide +kernel
theorem dX0_sumsDue_25 : decode cX0_sumsDue 25 = .ok (.aload_n 3, 1) := by decide +kernel
theorem dX0_sumsDue_26 : decode cX0_sumsDue 26 = .ok (.getfield 93, 3) := by decide +kernel
theorem dX0_sumsDue_29 : decode cX0_sumsDue 29 = .ok (.ifCond .ne 10, 3) := by decide +kernel
theorem dX0_sumsDue_32 : decode cX0_sumsDue 32 = .ok (.iload_n 1, 1) := by decide +kernel
theorem dX0_sumsDue_33 : decode cX0_sumsDue 33 = .ok (.aload_n 3, 1) := by decide +kernel
theorem dX0_sumsDue_34 : decode cX0_sumsDue 34 = .ok (.getfield 96, 3) := by decide +kernel
theorem dX0_sumsDue_37 : decode cX0_sumsDue 37 = .ok (.iadd, 1) := by decide +kernel
theorem dX0_sumsDue_38 : decode cX0_sumsDue 38 = .ok (.istore_n 1, 1) := by decide +kernel
theorem dX0_sumsDue_39 : decode cX0_sumsDue 39 = .ok (.iinc 2 1, 3) := by decide +kernel
theorem dX0_sumsDue_42 : decode cX0_sumsDue 42 = .ok (.goto (-38), 3) := by decide +kernel
theorem dX0_sumsDue_45 : decode cX0_sumsDue 45 = .ok (.iload_n 1, 1) := by decide +kernel
theorem dX0_sumsDue_46 : decode cX0_sumsDue 46 = .ok (.ireturn, 1) := by decide +kernel
theorem dX1_init_0 : decode cX1_init 0 = .ok (.aload_n 0, 1) := by decide +kernel
theorem dX1_init_1 : decode cX1_init 1 = .ok (.invokespecial 3, 3) := by decide +kernel
theorem dX1_init_4 : decode cX1_init 4 = .ok (.aload_n 0, 1) := by decide +kernel
theorem dX1_init_5 : decode cX1_init 5 = .ok (.bipush 50, 2) := by decide +kernel
theorem dX1_init_7 : decode cX1_init 7 = .ok (.newarray .int, 2) := by decide +kernel
theorem dX1_init_9 : decode cX1_init 9 = .ok (.putfield 9, 3) := by decide +kernel
theorem dX1_init_12 : decode cX1_init 12 = .ok (.iconst 0, 1) := by decide +kernel
theorem dX1_init_13 : decode cX1_init 13 = .ok (.istore_n 1, 1) := by decide +kernel
theorem dX1_init_14 : decode cX1_init 14 = .ok (.iload_n 1, 1) := by decide +kernel
theorem dX1_init_15 : decode cX1_init 15 = .ok (.bipush 50, 2) := by decide +kernel
theorem dX1_init_17 : decode cX1_init 17 = .ok (.if_icmp .ge 22, 3) := by decide +kernel
theorem dX1_init_20 : decode cX1_init 20 = .ok (.aload_n 0, 1) := by decide +kernel
theorem dX1_init_21 : decode cX1_init 21 = .ok (.getfield 9, 3) := by decide +kernel
theorem dX1_init_24 : decode cX1_init 24 = .ok (.iload_n 1, 1) := by decide +kernel
theorem dX1_init_25 : decode cX1_init 25 = .ok (.bipush 10, 2) := by decide +kernel
theorem dX1_init_27 : decode cX1_init 27 = .ok (.bipush 8, 2) := by decide +kernel
theorem dX1_init_29 : decode cX1_init 29 = .ok (.iload_n 1, 1) := by decide +kernel
theorem dX1_init_30 : decode cX1_init 30 = .ok (.imul, 1) := by decide +kernel
theorem dX1_init_31 : decode cX1_init 31 = .ok (.iadd, 1) := by decide +kernel
theorem dX1_init_32 : decode cX1_init 32 = .ok (.iastore, 1) := by decide +kernel
theorem dX1_init_33 : decode cX1_init 33 = .ok (.iinc 1 1, 3) := by decide +kernel
theorem dX1_init_36 : decode cX1_init 36 = .ok (.goto (-22), 3) := by decide +kernel
theorem dX1_init_39 : decode cX1_init 39 = .ok (.aload_n 0, 1) := by decide +kernel
theorem dX1_init_40 : decode cX1_init 40 = .ok (.iconst 3, 1) := by decide +kernel
theorem dX1_init_41 : decode cX1_init 41 = .ok (.newarray .int, 2) := by decide +kernel
theorem dX1_init_43 : decode cX1_init 43 = .ok (.putfield 15, 3) := by decide +kernel
theorem dX1_init_46 : decode cX1_init 46 = .ok (.aload_n 0, 1) := by decide +kernel
theorem dX1_init_47 : decode cX1_init 47 = .ok (.getfield 15, 3) := by decide +kernel
theorem dX1_init_50 : decode cX1_init 50 = .ok (.iconst 0, 1) := by decide +kernel
theorem dX1_init_51 : decode cX1_init 51 = .ok (.bipush 40, 2) := by decide +kernel
theorem dX1_init_53 : decode cX1_init 53 = .ok (.iastore, 1) := by decide +kernel
theorem dX1_init_54 : decode cX1_init 54 = .ok (.aload_n 0, 1) := by decide +kernel
theorem dX1_init_55 : decode cX1_init 55 = .ok (.getfield 15, 3) := by decide +kernel
theorem dX1_init_58 : decode cX1_init 58 = .ok (.iconst 1, 1) := by decide +kernel
theorem dX1_init_59 : decode cX1_init 59 = .ok (.iconst 5, 1) := by decide +kernel
theorem dX1_init_60 : decode cX1_init 60 = .ok (.iastore, 1) := by decide +kernel
theorem dX1_init_61 : decode cX1_init 61 = .ok (.aload_n 0, 1) := by decide +kernel
theorem dX1_init_62 : decode cX1_init 62 = .ok (.getfield 15, 3) := by decide +kernel
theorem dX1_init_65 : decode cX1_init 65 = .ok (.iconst 2, 1) := by decide +kernel
theorem dX1_init_66 : decode cX1_init 66 = .ok (.bipush 10, 2) := by decide +kernel
theorem dX1_init_68 : decode cX1_init 68 = .ok (.iastore, 1) := by decide +kernel
theorem dX1_init_69 : decode cX1_init 69 = .ok (.return_, 1) := by decide +kernel
set_option maxRecDepth 20000 in
theorem ggX1_deathsAt_X3_isAge : GoodIn wsX1_deathsAt wsX3_isAge := goodIn_r _ [4] (by decide +kernel) (by decide +kernel)
set_option maxRecDepth 20000 in
theorem gX1_deathsAt_X3_isAge_n18 : GoodIn wsX1_deathsAt (wsX3_isAge) := ggX1_deathsAt_X3_isAge
theorem dX1_deathsAt_0 : decode cX1_deathsAt 0 = .ok (.iload_n 1, 1) := by decide +kernel
theorem dX1_deathsAt_1 : decode cX1_deathsAt 1 = .ok (.invokestatic 18, 3) := by decide +kernel
theorem dX1_deathsAt_4 : decode cX1_deathsAt 4 = .ok (.ifCond .eq 15, 3) := by decide +kernel
theorem dX1_deathsAt_7 : decode cX1_deathsAt 7 = .ok (.aload_n 0, 1) := by decide +kernel
theorem dX1_deathsAt_8 : decode cX1_deathsAt 8 = .ok (.getfield 9, 3) := by decide +kernel
theorem dX1_deathsAt_11 : decode cX1_deathsAt 11 = .ok (.iload_n 1, 1) := by decide +kernel
theorem dX1_deathsAt_12 : decode cX1_deathsAt 12 = .ok (.bipush 50, 2) := by decide +kernel
theorem dX1_deathsAt_14 : decode cX1_deathsAt 14 = .ok (.isub, 1) := by decide +kernel
theorem dX1_deathsAt_15 : decode cX1_deathsAt 15 = .ok (.iaload, 1) := by decide +kernel
theorem dX1_deathsAt_16 : decode cX1_deathsAt 16 = .ok (.goto 6, 3) := by decide +kernel
theorem dX1_deathsAt_19 : decode cX1_deathsAt 19 = .ok (.sipush 1000, 3) := by decide +kernel
theorem dX1_deathsAt_22 : decode cX1_deathsAt 22 = .ok (.ireturn, 1) := by decide +kernel
set_option maxRecDepth 20000 in
theorem ggX1_changeDeaths_X3_isAge : GoodIn wsX1_changeDeaths wsX3_isAge := goodIn_r _ [4] (by decide +kernel) (by decide +kernel)
set_option maxRecDepth 20000 in
theorem gX1_changeDeaths_X3_isAge_n18 : GoodIn wsX1_changeDeaths (wsX3_isAge) := ggX1_changeDeaths_X3_isAge
theorem dX1_changeDeaths_0 : decode cX1_changeDeaths 0 = .ok (.iload_n 1, 1) := by decide +kernel
theorem dX1_changeDeaths_1 : decode cX1_changeDeaths 1 = .ok (.invokestatic 18, 3) := by decide +kernel
theorem dX1_changeDeaths_4 : decode cX1_changeDeaths 4 = .ok (.ifCond .eq 13, 3) := by decide +kernel
theorem dX1_changeDeaths_7 : decode cX1_changeDeaths 7 = .ok (.aload_n 0, 1) := by decide +kernel
theorem dX1_changeDeaths_8 : decode cX1_changeDeaths 8 = .ok (.getfield 9, 3) := by decide +kernel
theorem dX1_changeDeaths_11 : decode cX1_changeDeaths 11 = .ok (.iload_n 1, 1) := by decide +kernel
theorem dX1_changeDeaths_12 : decode cX1_changeDeaths 12 = .ok (.bipush 50, 2) := by decide +kernel
theorem dX1_changeDeaths_14 : decode cX1_changeDeaths 14 = .ok (.isub, 1) := by decide +kernel
theorem dX1_changeDeaths_15 : decode cX1_changeDeaths 15 = .ok (.iload_n 2, 1) := by decide +kernel
theorem dX1_changeDeaths_16 : decode cX1_changeDeaths 16 = .ok (.iastore, 1) := by decide +kernel
theorem dX1_changeDeaths_17 : decode cX1_changeDeaths 17 = .ok (.return_, 1) := by decide +kernel
theorem dX1_rate_0 : decode cX1_rate 0 = .ok (.iload_n 1, 1) := by decide +kernel
theorem dX1_rate_1 : decode cX1_rate 1 = .ok (.ifCond .lt 17, 3) := by decide +kernel
theorem dX1_rate_4 : decode cX1_rate 4 = .ok (.iload_n 1, 1) := by decide +kernel
theorem dX1_rate_5 : decode cX1_rate 5 = .ok (.iconst 3, 1) := by decide +kernel
theorem dX1_rate_6 : decode cX1_rate 6 = .ok (.if_icmp .ge 12, 3) := by decide +kernel
theorem dX1_rate_9 : decode cX1_rate 9 = .ok (.aload_n 0, 1) := by decide +kernel
theorem dX1_rate_10 : decode cX1_rate 10 = .ok (.getfield 15, 3) := by decide +kernel
theorem dX1_rate_13 : decode cX1_rate 13 = .ok (.iload_n 1, 1) := by decide +kernel
theorem dX1_rate_14 : decode cX1_rate 14 = .ok (.iaload, 1) := by decide +kernel
theorem dX1_rate_15 : decode cX1_rate 15 = .ok (.goto 4, 3) := by decide +kernel
theorem dX1_rate_18 : decode cX1_rate 18 = .ok (.iconst 0, 1) := by decide +kernel
theorem dX1_rate_19 : decode cX1_rate 19 = .ok (.ireturn, 1) := by decide +kernel
theorem dX1_changeRate_0 : decode cX1_changeRate 0 = .ok (.iload_n 1, 1) := by decide +kernel
theorem dX1_changeRate_1 : decode cX1_changeRate 1 = .ok (.ifCond .lt 15, 3) := by decide +kernel
theorem dX1_changeRate_4 : decode cX1_changeRate 4 = .ok (.iload_n 1, 1) := by decide +kernel
theorem dX1_changeRate_5 : decode cX1_changeRate 5 = .ok (.iconst 3, 1) := by decide +kernel
theorem dX1_changeRate_6 : decode cX1_changeRate 6 = .ok (.if_icmp .ge 10, 3) := by decide +kernel
theorem dX1_changeRate_9 : decode cX1_changeRate 9 = .ok (.aload_n 0, 1) := by decide +kernel
theorem dX1_changeRate_10 : decode cX1_changeRate 10 = .ok (.getfield 15, 3) := by decide +kernel
theorem dX1_changeRate_13 : decode cX1_changeRate 13 = .ok (.iload_n 1, 1) := by decide +kernel
theorem dX1_changeRate_14 : decode cX1_changeRate 14 = .ok (.iload_n 2, 1) := by decide +kernel
theorem dX1_changeRate_15 : decode cX1_changeRate 15 = .ok (.iastore, 1) := by decide +kernel
theorem dX1_changeRate_16 : decode cX1_changeRate 16 = .ok (.return_, 1) := by decide +kernel
set_option maxRecDepth 20000 in
theorem ggX1_worthNow_X1_worthWith : GoodIn wsX1_worthNow wsX1_worthWith := goodIn_r _ [6, 7, 8, 9, 5, 10, 11, 12, 13, 14, 15, 16] (by decide +kernel) (by decide +kernel)
set_option maxRecDepth 20000 in
theorem gX1_worthNow_X1_worthWith : GoodIn wsX1_worthNow (wsV RX1 22 RX1 yX1_worthWith wsX1_worthWith) := goodIn_app (goodIn_of _ (by decide +kernel)) ggX1_worthNow_X1_worthWith
theorem dX1_worthNow_0 : decode cX1_worthNow 0 = .ok (.aload_n 0, 1) := by decide +kernel
theorem dX1_worthNow_1 : decode cX1_worthNow 1 = .ok (.iload_n 1, 1) := by decide +kernel
theorem dX1_worthNow_2 : decode cX1_worthNow 2 = .ok (.iload_n 2, 1) := by decide +kernel
theorem dX1_worthNow_3 : decode cX1_worthNow 3 = .ok (.aload_n 0, 1) := by decide +kernel
theorem dX1_worthNow_4 : decode cX1_worthNow 4 = .ok (.getfield 15, 3) := by decide +kernel
theorem dX1_worthNow_7 : decode cX1_worthNow 7 = .ok (.iconst 0, 1) := by decide +kernel
theorem dX1_worthNow_8 : decode cX1_worthNow 8 = .ok (.iaload, 1) := by decide +kernel
theorem dX1_worthNow_9 : decode cX1_worthNow 9 = .ok (.invokevirtual 22, 3) := by decide +kernel
theorem dX1_worthNow_12 : decode cX1_worthNow 12 = .ok (.ireturn, 1) := by decide +kernel
set_option maxRecDepth 20000 in
theorem ggX1_worthWith_X1_deathsAt : GoodIn wsX1_worthWith wsX1_deathsAt := goodIn_r _ [5, 6, 7, 8, 9, 10, 11] (by decide +kernel) (by decide +kernel)
set_option maxRecDepth 20000 in
theorem gX1_worthWith_X1_deathsAt : GoodIn wsX1_worthWith (wsV RX1 26 RX1 yX1_deathsAt wsX1_deathsAt) := goodIn_app (goodIn_of _ (by decide +kernel)) ggX1_worthWith_X1_deathsAt
theorem dX1_worthWith_0 : decode cX1_worthWith 0 = .ok (.iload_n 1, 1) := by decide +kernel
theorem dX1_worthWith_1 : decode cX1_worthWith 1 = .ok (.iload_n 2, 1) := by decide +kernel
theorem dX1_worthWith_2 : decode cX1_worthWith 2 = .ok (.iadd, 1) := by decide +kernel
theorem dX1_worthWith_3 : decode cX1_worthWith 3 = .ok (.istore 4, 2) := by decide +kernel
theorem dX1_worthWith_5 : decode cX1_worthWith 5 = .ok (.iload 4, 2) := by decide +kernel
theorem dX1_worthWith_7 : decode cX1_worthWith 7 = .ok (.bipush 99, 2) := by decide +kernel
theorem dX1_worthWith_9 : decode cX1_worthWith 9 = .ok (.if_icmp .gt 7, 3) := by decide +kernel
theorem dX1_worthWith_12 : decode cX1_worthWith 12 = .ok (.iload_n 3, 1) := by decide +kernel
theorem dX1_worthWith_13 : decode cX1_worthWith 13 = .ok (.ifCond .ge 5, 3) := by decide +kernel
theorem dX1_worthWith_16 : decode cX1_worthWith 16 = .ok (.iconst 0, 1) := by decide +kernel
theorem dX1_worthWith_17 : decode cX1_worthWith 17 = .ok (.ireturn, 1) := by decide +kernel
theorem dX1_worthWith_18 : decode cX1_worthWith 18 = .ok (.iconst 0, 1) := by decide +kernel
theorem dX1_worthWith_19 : decode cX1_worthWith 19 = .ok (.istore 5, 2) := by decide +kernel
theorem dX1_worthWith_21 : decode cX1_worthWith 21 = .ok (.bipush 99, 2) := by decide +kernel
theorem dX1_worthWith_23 : decode cX1_worthWith 23 = .ok (.istore 6, 2) := by decide +kernel
theorem dX1_worthWith_25 : decode cX1_worthWith 25 = .ok (.iload 6, 2) := by decide +kernel
theorem dX1_worthWith_27 : decode cX1_worthWith 27 = .ok (.iload_n 1, 1) := by decide +kernel
theorem dX1_worthWith_28 : decode cX1_worthWith 28 = .ok (.if_icmp .lt 49, 3) := by decide +kernel
theorem dX1_worthWith_31 : decode cX1_worthWith 31 = .ok (.iload 6, 2) := by decide +kernel
theorem dX1_worthWith_33 : decode cX1_worthWith 33 = .ok (.iload 4, 2) := by decide +kernel
theorem dX1_worthWith_35 : decode cX1_worthWith 35 = .ok (.if_icmp .lt 9, 3) := by decide +kernel
theorem dX1_worthWith_38 : decode cX1_worthWith 38 = .ok (.sipush 1000, 3) := by decide +kernel
theorem dX1_worthWith_41 : decode cX1_worthWith 41 = .ok (.goto 4, 3) := by decide +kernel
theorem dX1_worthWith_44 : decode cX1_worthWith 44 = .ok (.iconst 0, 1) := by decide +kernel
theorem dX1_worthWith_45 : decode cX1_worthWith 45 = .ok (.istore 7, 2) := by decide +kernel
theorem dX1_worthWith_47 : decode cX1_worthWith 47 = .ok (.sipush 1000, 3) := by decide +kernel
theorem dX1_worthWith_50 : decode cX1_worthWith 50 = .ok (.aload_n 0, 1) := by decide +kernel
theorem dX1_worthWith_51 : decode cX1_worthWith 51 = .ok (.iload 6, 2) := by decide +kernel
theorem dX1_worthWith_53 : decode cX1_worthWith 53 = .ok (.invokevirtual 26, 3) := by decide +kernel
theorem dX1_worthWith_56 : decode cX1_worthWith 56 = .ok (.isub, 1) := by decide +kernel
theorem dX1_worthWith_57 : decode cX1_worthWith 57 = .ok (.iload 7, 2) := by decide +kernel
theorem dX1_worthWith_59 : decode cX1_worthWith 59 = .ok (.iload 5, 2) := by decide +kernel
theorem dX1_worthWith_61 : decode cX1_worthWith 61 = .ok (.iadd, 1) := by decide +kernel
theorem dX1_worthWith_62 : decode cX1_worthWith 62 = .ok (.imul, 1) := by decide +kernel
theorem dX1_worthWith_63 : decode cX1_worthWith 63 = .ok (.sipush 1000, 3) := by decide +kernel
theorem dX1_worthWith_66 : decode cX1_worthWith 66 = .ok (.iload_n 3, 1) := by decide +kernel
theorem dX1_worthWith_67 : decode cX1_worthWith 67 = .ok (.iadd, 1) := by decide +kernel
theorem dX1_worthWith_68 : decode cX1_worthWith 68 = .ok (.idiv, 1) := by decide +kernel
theorem dX1_worthWith_69 : decode cX1_worthWith 69 = .ok (.istore 5, 2) := by decide +kernel
theorem dX1_worthWith_71 : decode cX1_worthWith 71 = .ok (.iinc 6 (-1), 3) := by decide +kernel
theorem dX1_worthWith_74 : decode cX1_worthWith 74 = .ok (.goto (-49), 3) := by decide +kernel
theorem dX1_worthWith_77 : decode cX1_worthWith 77 = .ok (.iload 5, 2) := by decide +kernel
theorem dX1_worthWith_79 : decode cX1_worthWith 79 = .ok (.ireturn, 1) := by decide +kernel
theorem dX1_priceOf_0 : decode cX1_priceOf 0 = .ok (.iload_n 2, 1) := by decide +kernel
theorem dX1_priceOf_1 : decode cX1_priceOf 1 = .ok (.ifCond .ne 5, 3) := by decide +kernel
theorem dX1_priceOf_4 : decode cX1_priceOf 4 = .ok (.iconst 0, 1) := by decide +kernel
theorem dX1_priceOf_5 : decode cX1_priceOf 5 = .ok (.ireturn, 1) := by decide +kernel
theorem dX1_priceOf_6 : decode cX1_priceOf 6 = .ok (.iload_n 1, 1) := by decide +kernel
theorem dX1_priceOf_7 : decode cX1_priceOf 7 = .ok (.iload_n 2, 1) := by decide +kernel
theorem dX1_priceOf_8 : decode cX1_priceOf 8 = .ok (.imul, 1) := by decide +kernel
theorem dX1_priceOf_9 : decode cX1_priceOf 9 = .ok (.sipush 1000, 3) := by decide +kernel
theorem dX1_priceOf_12 : decode cX1_priceOf 12 = .ok (.idiv, 1) := by decide +kernel
theorem dX1_priceOf_13 : decode cX1_priceOf 13 = .ok (.istore_n 3, 1) := by decide +kernel
theorem dX1_priceOf_14 : decode cX1_priceOf 14 = .ok (.iload_n 3, 1) := by decide +kernel
theorem dX1_priceOf_15 : decode cX1_priceOf 15 = .ok (.iload_n 3, 1) := by decide +kernel
theorem dX1_priceOf_16 : decode cX1_priceOf 16 = .ok (.aload_n 0, 1) := by decide +kernel
theorem dX1_priceOf_17 : decode cX1_priceOf 17 = .ok (.getfield 15, 3) := by decide +kernel
theorem dX1_priceOf_20 : decode cX1_priceOf 20 = .ok (.iconst 1, 1) := by decide +kernel
theorem dX1_priceOf_21 : decode cX1_priceOf 21 = .ok (.iaload, 1) := by decide +kernel
theorem dX1_priceOf_22 : decode cX1_priceOf 22 = .ok (.imul, 1) := by decide +kernel
theorem dX1_priceOf_23 : decode cX1_priceOf 23 = .ok (.bipush 100, 2) := by decide +kernel
theorem dX1_priceOf_25 : decode cX1_priceOf 25 = .ok (.idiv, 1) := by decide +kernel
theorem dX1_priceOf_26 : decode cX1_priceOf 26 = .ok (.iadd, 1) := by decide +kernel
theorem dX1_priceOf_27 : decode cX1_priceOf 27 = .ok (.istore 4, 2) := by decide +kernel
theorem dX1_priceOf_29 : decode cX1_priceOf 29 = .ok (.iload 4, 2) := by decide +kernel
theorem dX1_priceOf_31 : decode cX1_priceOf 31 = .ok (.iconst 1, 1) := by decide +kernel
theorem dX1_priceOf_32 : decode cX1_priceOf 32 = .ok (.if_icmp .ge 7, 3) := by decide +kernel
theorem dX1_priceOf_35 : decode cX1_priceOf 35 = .ok (.iconst 1, 1) := by decide +kernel
theorem dX1_priceOf_36 : decode cX1_priceOf 36 = .ok (.goto 5, 3) := by decide +kernel
theorem dX1_priceOf_39 : decode cX1_priceOf 39 = .ok (.iload 4, 2) := by decide +kernel
theorem dX1_priceOf_41 : decode cX1_priceOf 41 = .ok (.ireturn, 1) := by decide +kernel
set_option maxRecDepth 20000 in
theorem ggX1_greatestSum_X1_priceOf : GoodIn wsX1_greatestSum wsX1_priceOf := goodIn_r _ [5, 6, 7, 8] (by decide +kernel) (by decide +kernel)
set_option maxRecDepth 20000 in
theorem gX1_greatestSum_X1_priceOf : GoodIn wsX1_greatestSum (wsV RX1 30 RX1 yX1_priceOf wsX1_priceOf) := goodIn_app (goodIn_of _ (by decide +kernel)) ggX1_greatestSum_X1_priceOf
theorem dX1_greatestSum_0 : decode cX1_greatestSum 0 = .ok (.iconst 0, 1) := by decide +kernel
theorem dX1_greatestSum_1 : decode cX1_greatestSum 1 = .ok (.istore_n 3, 1) := by decide +kernel
theorem dX1_greatestSum_2 : decode cX1_greatestSum 2 = .ok (.sipush 512, 3) := by decide +kernel

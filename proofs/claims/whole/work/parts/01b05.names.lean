theorem dX4_giveUp_45 : decode cX4_giveUp 45 = .ok (.invokevirtual 104, 3) := by decide +kernel
theorem dX4_giveUp_48 : decode cX4_giveUp 48 = .ok (.istore_n 2, 1) := by decide +kernel
theorem dX4_giveUp_49 : decode cX4_giveUp 49 = .ok (.aload_n 0, 1) := by decide +kernel
theorem dX4_giveUp_50 : decode cX4_giveUp 50 = .ok (.iload_n 1, 1) := by decide +kernel
theorem dX4_giveUp_51 : decode cX4_giveUp 51 = .ok (.iload_n 2, 1) := by decide +kernel
theorem dX4_giveUp_52 : decode cX4_giveUp 52 = .ok (.invokevirtual 107, 3) := by decide +kernel
theorem dX4_giveUp_55 : decode cX4_giveUp 55 = .ok (.aload_n 0, 1) := by decide +kernel
theorem dX4_giveUp_56 : decode cX4_giveUp 56 = .ok (.iload_n 1, 1) := by decide +kernel
theorem dX4_giveUp_57 : decode cX4_giveUp 57 = .ok (.iconst 4, 1) := by decide +kernel
theorem dX4_giveUp_58 : decode cX4_giveUp 58 = .ok (.iconst 2, 1) := by decide +kernel
theorem dX4_giveUp_59 : decode cX4_giveUp 59 = .ok (.invokevirtual 65, 3) := by decide +kernel
theorem dX4_giveUp_62 : decode cX4_giveUp 62 = .ok (.iload_n 2, 1) := by decide +kernel
theorem dX4_giveUp_63 : decode cX4_giveUp 63 = .ok (.ireturn, 1) := by decide +kernel
set_option maxRecDepth 20000 in
theorem ggX4_put_X4_isIn : GoodIn wsX4_put wsX4_isIn := goodIn_r _ [8] (by decide +kernel) (by decide +kernel)
set_option maxRecDepth 20000 in
theorem gX4_put_X4_isIn : GoodIn wsX4_put (va_wsS RX4 32 yX4_isIn wsX4_isIn) := goodIn_app (goodIn_of _ (by decide +kernel)) ggX4_put_X4_isIn
set_option maxRecDepth 20000 in
theorem ggX4_put_X4_fail : GoodIn wsX4_put wsX4_fail := goodIn_r _ [12, 1, 22, 23, 24, 25, 26, 27, 28] (by decide +kernel) (by decide +kernel)
set_option maxRecDepth 20000 in
theorem gX4_put_X4_fail : GoodIn wsX4_put (wsV RX4 72 RX4 yX4_fail wsX4_fail) := goodIn_app (goodIn_of _ (by decide +kernel)) ggX4_put_X4_fail
set_option maxRecDepth 20000 in
theorem ggX4_put_X4_comeIn : GoodIn wsX4_put wsX4_comeIn := goodIn_r _ [16, 4, 17, 18, 19, 20, 21, 22, 23, 24, 25, 26, 27, 28] (by decide +kernel) (by decide +kernel)
set_option maxRecDepth 20000 in
theorem gX4_put_X4_comeIn : GoodIn wsX4_put (wsV RX4 97 RX4 yX4_comeIn wsX4_comeIn) := goodIn_app (goodIn_of _ (by decide +kernel)) ggX4_put_X4_comeIn
theorem dX4_put_0 : decode cX4_put 0 = .ok (.aload_n 0, 1) := by decide +kernel
theorem dX4_put_1 : decode cX4_put 1 = .ok (.iconst 0, 1) := by decide +kernel
theorem dX4_put_2 : decode cX4_put 2 = .ok (.putfield 28, 3) := by decide +kernel
theorem dX4_put_5 : decode cX4_put 5 = .ok (.iload_n 1, 1) := by decide +kernel
theorem dX4_put_6 : decode cX4_put 6 = .ok (.ldc 111, 2) := by decide +kernel
theorem dX4_put_8 : decode cX4_put 8 = .ok (.ldc 112, 2) := by decide +kernel
theorem dX4_put_10 : decode cX4_put 10 = .ok (.invokestatic 32, 3) := by decide +kernel
theorem dX4_put_13 : decode cX4_put 13 = .ok (.ifCond .ne 9, 3) := by decide +kernel
theorem dX4_put_16 : decode cX4_put 16 = .ok (.aload_n 0, 1) := by decide +kernel
theorem dX4_put_17 : decode cX4_put 17 = .ok (.iconst 1, 1) := by decide +kernel
theorem dX4_put_18 : decode cX4_put 18 = .ok (.invokevirtual 72, 3) := by decide +kernel
theorem dX4_put_21 : decode cX4_put 21 = .ok (.ireturn, 1) := by decide +kernel
theorem dX4_put_22 : decode cX4_put 22 = .ok (.aload_n 0, 1) := by decide +kernel
theorem dX4_put_23 : decode cX4_put 23 = .ok (.iload_n 1, 1) := by decide +kernel
theorem dX4_put_24 : decode cX4_put 24 = .ok (.i2l, 1) := by decide +kernel
theorem dX4_put_25 : decode cX4_put 25 = .ok (.invokevirtual 97, 3) := by decide +kernel
theorem dX4_put_28 : decode cX4_put 28 = .ok (.aload_n 0, 1) := by decide +kernel
theorem dX4_put_29 : decode cX4_put 29 = .ok (.getfield 19, 3) := by decide +kernel
theorem dX4_put_32 : decode cX4_put 32 = .ok (.iconst 1, 1) := by decide +kernel
theorem dX4_put_33 : decode cX4_put 33 = .ok (.iaload, 1) := by decide +kernel
theorem dX4_put_34 : decode cX4_put 34 = .ok (.ireturn, 1) := by decide +kernel
set_option maxRecDepth 20000 in
theorem ggX4_worth_X4_isAge : GoodIn wsX4_worth wsX4_isAge := goodIn_r _ [5, 6, 7, 4, 8] (by decide +kernel) (by decide +kernel)
set_option maxRecDepth 20000 in
theorem gX4_worth_X4_isAge : GoodIn wsX4_worth (va_wsS RX4 69 yX4_isAge wsX4_isAge) := goodIn_app (goodIn_of _ (by decide +kernel)) ggX4_worth_X4_isAge
set_option maxRecDepth 20000 in
theorem ggX4_worth_X4_isLate : GoodIn wsX4_worth wsX4_isLate := goodIn_r _ [11, 6, 7, 4, 8] (by decide +kernel) (by decide +kernel)
set_option maxRecDepth 20000 in
theorem gX4_worth_X4_isLate : GoodIn wsX4_worth (va_wsS RX4 81 yX4_isLate wsX4_isLate) := goodIn_app (goodIn_of _ (by decide +kernel)) ggX4_worth_X4_isLate
set_option maxRecDepth 20000 in
theorem ggX4_worth_X4_worthOf : GoodIn wsX4_worth wsX4_worthOf := goodIn_r _ [15, 16, 21, 22, 23, 24, 25, 26, 27] (by decide +kernel) (by decide +kernel)
set_option maxRecDepth 20000 in
theorem gX4_worth_X4_worthOf : GoodIn wsX4_worth (wsV RX4 43 RX4 yX4_worthOf wsX4_worthOf) := goodIn_app (goodIn_of _ (by decide +kernel)) ggX4_worth_X4_worthOf
set_option maxRecDepth 20000 in
theorem ggX4_worth_X4_fail : GoodIn wsX4_worth wsX4_fail := goodIn_r _ [20, 1, 21, 22, 23, 24, 25, 26, 27] (by decide +kernel) (by decide +kernel)
set_option maxRecDepth 20000 in
theorem gX4_worth_X4_fail : GoodIn wsX4_worth (wsV RX4 72 RX4 yX4_fail wsX4_fail) := goodIn_app (goodIn_of _ (by decide +kernel)) ggX4_worth_X4_fail
theorem dX4_worth_0 : decode cX4_worth 0 = .ok (.aload_n 0, 1) := by decide +kernel
theorem dX4_worth_1 : decode cX4_worth 1 = .ok (.iconst 0, 1) := by decide +kernel
theorem dX4_worth_2 : decode cX4_worth 2 = .ok (.putfield 28, 3) := by decide +kernel
theorem dX4_worth_5 : decode cX4_worth 5 = .ok (.iload_n 1, 1) := by decide +kernel
theorem dX4_worth_6 : decode cX4_worth 6 = .ok (.invokestatic 69, 3) := by decide +kernel
theorem dX4_worth_9 : decode cX4_worth 9 = .ok (.ifCond .eq 19, 3) := by decide +kernel
theorem dX4_worth_12 : decode cX4_worth 12 = .ok (.iload_n 2, 1) := by decide +kernel
theorem dX4_worth_13 : decode cX4_worth 13 = .ok (.invokestatic 81, 3) := by decide +kernel
theorem dX4_worth_16 : decode cX4_worth 16 = .ok (.ifCond .eq 12, 3) := by decide +kernel
theorem dX4_worth_19 : decode cX4_worth 19 = .ok (.aload_n 0, 1) := by decide +kernel
theorem dX4_worth_20 : decode cX4_worth 20 = .ok (.iload_n 1, 1) := by decide +kernel
theorem dX4_worth_21 : decode cX4_worth 21 = .ok (.iload_n 2, 1) := by decide +kernel
theorem dX4_worth_22 : decode cX4_worth 22 = .ok (.invokevirtual 43, 3) := by decide +kernel
theorem dX4_worth_25 : decode cX4_worth 25 = .ok (.goto 8, 3) := by decide +kernel
theorem dX4_worth_28 : decode cX4_worth 28 = .ok (.aload_n 0, 1) := by decide +kernel
theorem dX4_worth_29 : decode cX4_worth 29 = .ok (.iconst 1, 1) := by decide +kernel
theorem dX4_worth_30 : decode cX4_worth 30 = .ok (.invokevirtual 72, 3) := by decide +kernel
theorem dX4_worth_33 : decode cX4_worth 33 = .ok (.ireturn, 1) := by decide +kernel
set_option maxRecDepth 20000 in
theorem ggX4_price_X4_isBought : GoodIn wsX4_price wsX4_isBought := goodIn_r _ [5, 6, 7, 4, 8, 9, 10, 11, 12, 13, 14, 15, 16, 17] (by decide +kernel) (by decide +kernel)
set_option maxRecDepth 20000 in
theorem gX4_price_X4_isBought : GoodIn wsX4_price (va_wsS RX4 84 yX4_isBought wsX4_isBought) := goodIn_app (goodIn_of _ (by decide +kernel)) ggX4_price_X4_isBought
set_option maxRecDepth 20000 in
theorem ggX4_price_X4_priceOf : GoodIn wsX4_price wsX4_priceOf := goodIn_r _ [21, 22, 23, 24, 25, 26, 27, 28, 29, 4, 30, 31, 36, 37, 38, 39, 40, 41, 42] (by decide +kernel) (by decide +kernel)
set_option maxRecDepth 20000 in
theorem gX4_price_X4_priceOf : GoodIn wsX4_price (wsV RX4 87 RX4 yX4_priceOf wsX4_priceOf) := goodIn_app (goodIn_of _ (by decide +kernel)) ggX4_price_X4_priceOf
set_option maxRecDepth 20000 in
theorem ggX4_price_X4_fail : GoodIn wsX4_price wsX4_fail := goodIn_r _ [35, 1, 36, 37, 38, 39, 40, 41, 42] (by decide +kernel) (by decide +kernel)
set_option maxRecDepth 20000 in
theorem gX4_price_X4_fail : GoodIn wsX4_price (wsV RX4 72 RX4 yX4_fail wsX4_fail) := goodIn_app (goodIn_of _ (by decide +kernel)) ggX4_price_X4_fail
theorem dX4_price_0 : decode cX4_price 0 = .ok (.aload_n 0, 1) := by decide +kernel
theorem dX4_price_1 : decode cX4_price 1 = .ok (.iconst 0, 1) := by decide +kernel
theorem dX4_price_2 : decode cX4_price 2 = .ok (.putfield 28, 3) := by decide +kernel
theorem dX4_price_5 : decode cX4_price 5 = .ok (.iload_n 1, 1) := by decide +kernel
theorem dX4_price_6 : decode cX4_price 6 = .ok (.iload_n 2, 1) := by decide +kernel
theorem dX4_price_7 : decode cX4_price 7 = .ok (.iload_n 3, 1) := by decide +kernel
theorem dX4_price_8 : decode cX4_price 8 = .ok (.invokestatic 84, 3) := by decide +kernel
theorem dX4_price_11 : decode cX4_price 11 = .ok (.ifCond .eq 13, 3) := by decide +kernel
theorem dX4_price_14 : decode cX4_price 14 = .ok (.aload_n 0, 1) := by decide +kernel
theorem dX4_price_15 : decode cX4_price 15 = .ok (.iload_n 1, 1) := by decide +kernel
theorem dX4_price_16 : decode cX4_price 16 = .ok (.iload_n 2, 1) := by decide +kernel
theorem dX4_price_17 : decode cX4_price 17 = .ok (.iload_n 3, 1) := by decide +kernel
theorem dX4_price_18 : decode cX4_price 18 = .ok (.invokevirtual 87, 3) := by decide +kernel
theorem dX4_price_21 : decode cX4_price 21 = .ok (.goto 8, 3) := by decide +kernel
theorem dX4_price_24 : decode cX4_price 24 = .ok (.aload_n 0, 1) := by decide +kernel
theorem dX4_price_25 : decode cX4_price 25 = .ok (.iconst 1, 1) := by decide +kernel
theorem dX4_price_26 : decode cX4_price 26 = .ok (.invokevirtual 72, 3) := by decide +kernel
theorem dX4_price_29 : decode cX4_price 29 = .ok (.ireturn, 1) := by decide +kernel
set_option maxRecDepth 20000 in
theorem ggX4_widowTold_X4_kept : GoodIn wsX4_widowTold wsX4_kept := goodIn_r _ [5, 6, 7, 8, 4, 9, 10, 11, 12, 13, 14, 15, 16, 17, 18, 19, 25, 26, 27, 28, 29, 30, 31] (by decide +kernel) (by decide +kernel)
set_option maxRecDepth 20000 in
theorem gX4_widowTold_X4_kept : GoodIn wsX4_widowTold (wsV RX4 55 RX4 yX4_kept wsX4_kept) := goodIn_app (goodIn_of _ (by decide +kernel)) ggX4_widowTold_X4_kept
set_option maxRecDepth 20000 in
theorem ggX4_widowTold_X4_wi : GoodIn wsX4_widowTold wsX4_wi := goodIn_r _ [13, 14, 25, 26, 27, 28, 29, 30, 31] (by decide +kernel) (by decide +kernel)
set_option maxRecDepth 20000 in
theorem gX4_widowTold_X4_wi : GoodIn wsX4_widowTold (wsV RX4 39 RX4 yX4_wi wsX4_wi) := goodIn_app (goodIn_of _ (by decide +kernel)) ggX4_widowTold_X4_wi
set_option maxRecDepth 20000 in
theorem ggX4_widowTold_X4_back : GoodIn wsX4_widowTold wsX4_back := goodIn_r _ [23, 24, 6, 7, 8, 4, 9, 10, 11, 12, 13, 14, 1, 2, 3, 5, 15, 16, 17, 18, 19, 25, 26, 27, 28, 29, 30, 31] (by decide +kernel) (by decide +kernel)
set_option maxRecDepth 20000 in
theorem gX4_widowTold_X4_back : GoodIn wsX4_widowTold (wsV RX4 104 RX4 yX4_back wsX4_back) := goodIn_app (goodIn_of _ (by decide +kernel)) ggX4_widowTold_X4_back
theorem dX4_widowTold_0 : decode cX4_widowTold 0 = .ok (.iload_n 2, 1) := by decide +kernel
theorem dX4_widowTold_1 : decode cX4_widowTold 1 = .ok (.tableswitch 58 5 8 #[31, 37, 44, 52], 31) := by decide +kernel
theorem dX4_widowTold_32 : decode cX4_widowTold 32 = .ok (.aload_n 0, 1) := by decide +kernel
theorem dX4_widowTold_33 : decode cX4_widowTold 33 = .ok (.iload_n 1, 1) := by decide +kernel
theorem dX4_widowTold_34 : decode cX4_widowTold 34 = .ok (.invokevirtual 55, 3) := by decide +kernel
theorem dX4_widowTold_37 : decode cX4_widowTold 37 = .ok (.ireturn, 1) := by decide +kernel
theorem dX4_widowTold_38 : decode cX4_widowTold 38 = .ok (.aload_n 0, 1) := by decide +kernel
theorem dX4_widowTold_39 : decode cX4_widowTold 39 = .ok (.iload_n 1, 1) := by decide +kernel
theorem dX4_widowTold_40 : decode cX4_widowTold 40 = .ok (.iconst 5, 1) := by decide +kernel
theorem dX4_widowTold_41 : decode cX4_widowTold 41 = .ok (.invokevirtual 39, 3) := by decide +kernel
theorem dX4_widowTold_44 : decode cX4_widowTold 44 = .ok (.ireturn, 1) := by decide +kernel
theorem dX4_widowTold_45 : decode cX4_widowTold 45 = .ok (.aload_n 0, 1) := by decide +kernel
theorem dX4_widowTold_46 : decode cX4_widowTold 46 = .ok (.iload_n 1, 1) := by decide +kernel
theorem dX4_widowTold_47 : decode cX4_widowTold 47 = .ok (.bipush 6, 2) := by decide +kernel
theorem dX4_widowTold_49 : decode cX4_widowTold 49 = .ok (.invokevirtual 39, 3) := by decide +kernel
theorem dX4_widowTold_52 : decode cX4_widowTold 52 = .ok (.ireturn, 1) := by decide +kernel
theorem dX4_widowTold_53 : decode cX4_widowTold 53 = .ok (.aload_n 0, 1) := by decide +kernel
theorem dX4_widowTold_54 : decode cX4_widowTold 54 = .ok (.iload_n 1, 1) := by decide +kernel
theorem dX4_widowTold_55 : decode cX4_widowTold 55 = .ok (.invokevirtual 104, 3) := by decide +kernel
theorem dX4_widowTold_58 : decode cX4_widowTold 58 = .ok (.ireturn, 1) := by decide +kernel
theorem dX4_widowTold_59 : decode cX4_widowTold 59 = .ok (.aload_n 0, 1) := by decide +kernel
theorem dX4_widowTold_60 : decode cX4_widowTold 60 = .ok (.iload_n 1, 1) := by decide +kernel
theorem dX4_widowTold_61 : decode cX4_widowTold 61 = .ok (.iload_n 2, 1) := by decide +kernel
theorem dX4_widowTold_62 : decode cX4_widowTold 62 = .ok (.invokevirtual 39, 3) := by decide +kernel
theorem dX4_widowTold_65 : decode cX4_widowTold 65 = .ok (.ireturn, 1) := by decide +kernel
set_option maxRecDepth 20000 in
theorem ggX4_told_X4_isWidow : GoodIn wsX4_told wsX4_isWidow := goodIn_r _ [6, 7, 8, 9, 5, 10, 42, 43, 44, 45, 46, 47, 48] (by decide +kernel) (by decide +kernel)
set_option maxRecDepth 20000 in
theorem gX4_told_X4_isWidow : GoodIn wsX4_told (wsV RX4 101 RX4 yX4_isWidow wsX4_isWidow) := goodIn_app (goodIn_of _ (by decide +kernel)) ggX4_told_X4_isWidow
set_option maxRecDepth 20000 in
theorem ggX4_told_X4_isIn : GoodIn wsX4_told wsX4_isIn := goodIn_r _ [10] (by decide +kernel) (by decide +kernel)
set_option maxRecDepth 20000 in
theorem gX4_told_X4_isIn : GoodIn wsX4_told (va_wsS RX4 32 yX4_isIn wsX4_isIn) := goodIn_app (goodIn_of _ (by decide +kernel)) ggX4_told_X4_isIn
set_option maxRecDepth 20000 in
theorem ggX4_told_X4_widowTold : GoodIn wsX4_told wsX4_widowTold := goodIn_r _ [14, 15, 16, 17, 5, 18, 19, 20, 21, 22, 23, 24, 25, 26, 27, 28, 29, 30, 31, 32, 33, 34, 35, 36, 37, 42, 43, 44, 45, 46, 47, 48] (by decide +kernel) (by decide +kernel)
set_option maxRecDepth 20000 in
theorem gX4_told_X4_widowTold : GoodIn wsX4_told (wsV RX4 113 RX4 yX4_widowTold wsX4_widowTold) := goodIn_app (goodIn_of _ (by decide +kernel)) ggX4_told_X4_widowTold
set_option maxRecDepth 20000 in
theorem ggX4_told_X4_fail : GoodIn wsX4_told wsX4_fail := goodIn_r _ [41, 1, 42, 43, 44, 45, 46, 47, 48] (by decide +kernel) (by decide +kernel)
set_option maxRecDepth 20000 in
theorem gX4_told_X4_fail : GoodIn wsX4_told (wsV RX4 72 RX4 yX4_fail wsX4_fail) := goodIn_app (goodIn_of _ (by decide +kernel)) ggX4_told_X4_fail
theorem dX4_told_0 : decode cX4_told 0 = .ok (.aload_n 0, 1) := by decide +kernel
theorem dX4_told_1 : decode cX4_told 1 = .ok (.iconst 0, 1) := by decide +kernel
theorem dX4_told_2 : decode cX4_told 2 = .ok (.putfield 28, 3) := by decide +kernel
theorem dX4_told_5 : decode cX4_told 5 = .ok (.aload_n 0, 1) := by decide +kernel
theorem dX4_told_6 : decode cX4_told 6 = .ok (.iload_n 1, 1) := by decide +kernel
theorem dX4_told_7 : decode cX4_told 7 = .ok (.invokevirtual 101, 3) := by decide +kernel
theorem dX4_told_10 : decode cX4_told 10 = .ok (.ifCond .eq 22, 3) := by decide +kernel
theorem dX4_told_13 : decode cX4_told 13 = .ok (.iload_n 2, 1) := by decide +kernel
theorem dX4_told_14 : decode cX4_told 14 = .ok (.iconst 0, 1) := by decide +kernel
theorem dX4_told_15 : decode cX4_told 15 = .ok (.bipush 8, 2) := by decide +kernel
theorem dX4_told_17 : decode cX4_told 17 = .ok (.invokestatic 32, 3) := by decide +kernel
theorem dX4_told_20 : decode cX4_told 20 = .ok (.ifCond .eq 12, 3) := by decide +kernel
theorem dX4_told_23 : decode cX4_told 23 = .ok (.aload_n 0, 1) := by decide +kernel
theorem dX4_told_24 : decode cX4_told 24 = .ok (.iload_n 1, 1) := by decide +kernel
theorem dX4_told_25 : decode cX4_told 25 = .ok (.iload_n 2, 1) := by decide +kernel
theorem dX4_told_26 : decode cX4_told 26 = .ok (.invokevirtual 113, 3) := by decide +kernel
theorem dX4_told_29 : decode cX4_told 29 = .ok (.goto 8, 3) := by decide +kernel
theorem dX4_told_32 : decode cX4_told 32 = .ok (.aload_n 0, 1) := by decide +kernel
theorem dX4_told_33 : decode cX4_told 33 = .ok (.iconst 1, 1) := by decide +kernel
theorem dX4_told_34 : decode cX4_told 34 = .ok (.invokevirtual 72, 3) := by decide +kernel
theorem dX4_told_37 : decode cX4_told 37 = .ok (.ireturn, 1) := by decide +kernel
set_option maxRecDepth 20000 in
theorem ggX4_counted_X4_isAlive : GoodIn wsX4_counted wsX4_isAlive := goodIn_r _ [7, 8, 9, 10, 6, 11, 12, 26, 27, 28, 29, 30, 31, 32] (by decide +kernel) (by decide +kernel)
set_option maxRecDepth 20000 in
theorem gX4_counted_X4_isAlive : GoodIn wsX4_counted (wsV RX4 51 RX4 yX4_isAlive wsX4_isAlive) := goodIn_app (goodIn_of _ (by decide +kernel)) ggX4_counted_X4_isAlive
set_option maxRecDepth 20000 in
theorem ggX4_counted_X4_keptForAll : GoodIn wsX4_counted wsX4_keptForAll := goodIn_r _ [16, 2, 17, 18, 19, 6, 20, 3, 4, 5, 7, 8, 9, 10, 11, 12, 21, 22, 23, 24, 25, 26, 27, 28, 29, 30, 31, 32] (by decide +kernel) (by decide +kernel)
set_option maxRecDepth 20000 in
theorem gX4_counted_X4_keptForAll : GoodIn wsX4_counted (wsV RX4 116 RX4 yX4_keptForAll wsX4_keptForAll) := goodIn_app (goodIn_of _ (by decide +kernel)) ggX4_counted_X4_keptForAll
set_option maxRecDepth 20000 in
theorem ggX4_counted_X4_wi : GoodIn wsX4_counted wsX4_wi := goodIn_r _ [11, 12, 26, 27, 28, 29, 30, 31, 32] (by decide +kernel) (by decide +kernel)
set_option maxRecDepth 20000 in
theorem gX4_counted_X4_wi : GoodIn wsX4_counted (wsV RX4 39 RX4 yX4_wi wsX4_wi) := goodIn_app (goodIn_of _ (by decide +kernel)) ggX4_counted_X4_wi
theorem dX4_counted_0 : decode cX4_counted 0 = .ok (.iconst 0, 1) := by decide +kernel
theorem dX4_counted_1 : decode cX4_counted 1 = .ok (.istore_n 2, 1) := by decide +kernel
theorem dX4_counted_2 : decode cX4_counted 2 = .ok (.iload_n 1, 1) := by decide +kernel
theorem dX4_counted_3 : decode cX4_counted 3 = .ok (.tableswitch 170 0 7 #[45, 52, 57, 91, 98, 103, 115, 163], 45) := by decide +kernel
theorem dX4_counted_48 : decode cX4_counted 48 = .ok (.aload_n 0, 1) := by decide +kernel
theorem dX4_counted_49 : decode cX4_counted 49 = .ok (.getfield 19, 3) := by decide +kernel
theorem dX4_counted_52 : decode cX4_counted 52 = .ok (.iconst 0, 1) := by decide +kernel
theorem dX4_counted_53 : decode cX4_counted 53 = .ok (.iaload, 1) := by decide +kernel
theorem dX4_counted_54 : decode cX4_counted 54 = .ok (.ireturn, 1) := by decide +kernel
theorem dX4_counted_55 : decode cX4_counted 55 = .ok (.aload_n 0, 1) := by decide +kernel
theorem dX4_counted_56 : decode cX4_counted 56 = .ok (.getfield 36, 3) := by decide +kernel
theorem dX4_counted_59 : decode cX4_counted 59 = .ok (.ireturn, 1) := by decide +kernel
theorem dX4_counted_60 : decode cX4_counted 60 = .ok (.iconst 0, 1) := by decide +kernel
theorem dX4_counted_61 : decode cX4_counted 61 = .ok (.istore_n 3, 1) := by decide +kernel
theorem dX4_counted_62 : decode cX4_counted 62 = .ok (.iload_n 3, 1) := by decide +kernel
theorem dX4_counted_63 : decode cX4_counted 63 = .ok (.aload_n 0, 1) := by decide +kernel
theorem dX4_counted_64 : decode cX4_counted 64 = .ok (.getfield 36, 3) := by decide +kernel
theorem dX4_counted_67 : decode cX4_counted 67 = .ok (.if_icmp .ge 25, 3) := by decide +kernel
theorem dX4_counted_70 : decode cX4_counted 70 = .ok (.iload_n 2, 1) := by decide +kernel
theorem dX4_counted_71 : decode cX4_counted 71 = .ok (.aload_n 0, 1) := by decide +kernel
theorem dX4_counted_72 : decode cX4_counted 72 = .ok (.iload_n 3, 1) := by decide +kernel
theorem dX4_counted_73 : decode cX4_counted 73 = .ok (.invokevirtual 51, 3) := by decide +kernel
theorem dX4_counted_76 : decode cX4_counted 76 = .ok (.ifCond .eq 7, 3) := by decide +kernel
theorem dX4_counted_79 : decode cX4_counted 79 = .ok (.iconst 1, 1) := by decide +kernel
theorem dX4_counted_80 : decode cX4_counted 80 = .ok (.goto 4, 3) := by decide +kernel
theorem dX4_counted_83 : decode cX4_counted 83 = .ok (.iconst 0, 1) := by decide +kernel
theorem dX4_counted_84 : decode cX4_counted 84 = .ok (.iadd, 1) := by decide +kernel
theorem dX4_counted_85 : decode cX4_counted 85 = .ok (.istore_n 2, 1) := by decide +kernel
theorem dX4_counted_86 : decode cX4_counted 86 = .ok (.iinc 3 1, 3) := by decide +kernel
theorem dX4_counted_89 : decode cX4_counted 89 = .ok (.goto (-27), 3) := by decide +kernel
theorem dX4_counted_92 : decode cX4_counted 92 = .ok (.iload_n 2, 1) := by decide +kernel
theorem dX4_counted_93 : decode cX4_counted 93 = .ok (.ireturn, 1) := by decide +kernel
theorem dX4_counted_94 : decode cX4_counted 94 = .ok (.aload_n 0, 1) := by decide +kernel
theorem dX4_counted_95 : decode cX4_counted 95 = .ok (.getfield 19, 3) := by decide +kernel
theorem dX4_counted_98 : decode cX4_counted 98 = .ok (.iconst 1, 1) := by decide +kernel
theorem dX4_counted_99 : decode cX4_counted 99 = .ok (.iaload, 1) := by decide +kernel
theorem dX4_counted_100 : decode cX4_counted 100 = .ok (.ireturn, 1) := by decide +kernel
theorem dX4_counted_101 : decode cX4_counted 101 = .ok (.aload_n 0, 1) := by decide +kernel
theorem dX4_counted_102 : decode cX4_counted 102 = .ok (.invokevirtual 116, 3) := by decide +kernel
theorem dX4_counted_105 : decode cX4_counted 105 = .ok (.ireturn, 1) := by decide +kernel
theorem dX4_counted_106 : decode cX4_counted 106 = .ok (.aload_n 0, 1) := by decide +kernel
theorem dX4_counted_107 : decode cX4_counted 107 = .ok (.getfield 19, 3) := by decide +kernel
theorem dX4_counted_110 : decode cX4_counted 110 = .ok (.iconst 1, 1) := by decide +kernel
theorem dX4_counted_111 : decode cX4_counted 111 = .ok (.iaload, 1) := by decide +kernel
theorem dX4_counted_112 : decode cX4_counted 112 = .ok (.aload_n 0, 1) := by decide +kernel
theorem dX4_counted_113 : decode cX4_counted 113 = .ok (.invokevirtual 116, 3) := by decide +kernel
theorem dX4_counted_116 : decode cX4_counted 116 = .ok (.isub, 1) := by decide +kernel
theorem dX4_counted_117 : decode cX4_counted 117 = .ok (.ireturn, 1) := by decide +kernel
theorem dX4_counted_118 : decode cX4_counted 118 = .ok (.iconst 0, 1) := by decide +kernel
theorem dX4_counted_119 : decode cX4_counted 119 = .ok (.istore_n 3, 1) := by decide +kernel
theorem dX4_counted_120 : decode cX4_counted 120 = .ok (.iload_n 3, 1) := by decide +kernel
theorem dX4_counted_121 : decode cX4_counted 121 = .ok (.aload_n 0, 1) := by decide +kernel
theorem dX4_counted_122 : decode cX4_counted 122 = .ok (.getfield 36, 3) := by decide +kernel
theorem dX4_counted_125 : decode cX4_counted 125 = .ok (.if_icmp .ge 39, 3) := by decide +kernel
theorem dX4_counted_128 : decode cX4_counted 128 = .ok (.iload_n 2, 1) := by decide +kernel
theorem dX4_counted_129 : decode cX4_counted 129 = .ok (.aload_n 0, 1) := by decide +kernel
theorem dX4_counted_130 : decode cX4_counted 130 = .ok (.iload_n 3, 1) := by decide +kernel
theorem dX4_counted_131 : decode cX4_counted 131 = .ok (.invokevirtual 51, 3) := by decide +kernel
theorem dX4_counted_134 : decode cX4_counted 134 = .ok (.ifCond .eq 21, 3) := by decide +kernel
theorem dX4_counted_137 : decode cX4_counted 137 = .ok (.aload_n 0, 1) := by decide +kernel
theorem dX4_counted_138 : decode cX4_counted 138 = .ok (.iload_n 3, 1) := by decide +kernel
theorem dX4_counted_139 : decode cX4_counted 139 = .ok (.iconst 2, 1) := by decide +kernel
theorem dX4_counted_140 : decode cX4_counted 140 = .ok (.invokevirtual 39, 3) := by decide +kernel
theorem dX4_counted_143 : decode cX4_counted 143 = .ok (.ifCond .ne 12, 3) := by decide +kernel
theorem dX4_counted_146 : decode cX4_counted 146 = .ok (.aload_n 0, 1) := by decide +kernel
theorem dX4_counted_147 : decode cX4_counted 147 = .ok (.iload_n 3, 1) := by decide +kernel
theorem dX4_counted_148 : decode cX4_counted 148 = .ok (.iconst 1, 1) := by decide +kernel
theorem dX4_counted_149 : decode cX4_counted 149 = .ok (.invokevirtual 39, 3) := by decide +kernel
theorem dX4_counted_152 : decode cX4_counted 152 = .ok (.goto 4, 3) := by decide +kernel
theorem dX4_counted_155 : decode cX4_counted 155 = .ok (.iconst 0, 1) := by decide +kernel
theorem dX4_counted_156 : decode cX4_counted 156 = .ok (.iadd, 1) := by decide +kernel
theorem dX4_counted_157 : decode cX4_counted 157 = .ok (.istore_n 2, 1) := by decide +kernel
theorem dX4_counted_158 : decode cX4_counted 158 = .ok (.iinc 3 1, 3) := by decide +kernel
theorem dX4_counted_161 : decode cX4_counted 161 = .ok (.goto (-41), 3) := by decide +kernel
theorem dX4_counted_164 : decode cX4_counted 164 = .ok (.iload_n 2, 1) := by decide +kernel
theorem dX4_counted_165 : decode cX4_counted 165 = .ok (.ireturn, 1) := by decide +kernel
theorem dX4_counted_166 : decode cX4_counted 166 = .ok (.aload_n 0, 1) := by decide +kernel
theorem dX4_counted_167 : decode cX4_counted 167 = .ok (.getfield 19, 3) := by decide +kernel
theorem dX4_counted_170 : decode cX4_counted 170 = .ok (.iconst 2, 1) := by decide +kernel
theorem dX4_counted_171 : decode cX4_counted 171 = .ok (.iaload, 1) := by decide +kernel
theorem dX4_counted_172 : decode cX4_counted 172 = .ok (.ireturn, 1) := by decide +kernel
theorem dX4_counted_173 : decode cX4_counted 173 = .ok (.iconst 0, 1) := by decide +kernel
theorem dX4_counted_174 : decode cX4_counted 174 = .ok (.istore_n 3, 1) := by decide +kernel
theorem dX4_counted_175 : decode cX4_counted 175 = .ok (.iload_n 3, 1) := by decide +kernel
theorem dX4_counted_176 : decode cX4_counted 176 = .ok (.aload_n 0, 1) := by decide +kernel
theorem dX4_counted_177 : decode cX4_counted 177 = .ok (.getfield 36, 3) := by decide +kernel
theorem dX4_counted_180 : decode cX4_counted 180 = .ok (.if_icmp .ge 19, 3) := by decide +kernel
theorem dX4_counted_183 : decode cX4_counted 183 = .ok (.iload_n 2, 1) := by decide +kernel
theorem dX4_counted_184 : decode cX4_counted 184 = .ok (.aload_n 0, 1) := by decide +kernel
theorem dX4_counted_185 : decode cX4_counted 185 = .ok (.iload_n 3, 1) := by decide +kernel
theorem dX4_counted_186 : decode cX4_counted 186 = .ok (.bipush 6, 2) := by decide +kernel
theorem dX4_counted_188 : decode cX4_counted 188 = .ok (.invokevirtual 39, 3) := by decide +kernel
theorem dX4_counted_191 : decode cX4_counted 191 = .ok (.iadd, 1) := by decide +kernel
theorem dX4_counted_192 : decode cX4_counted 192 = .ok (.istore_n 2, 1) := by decide +kernel
theorem dX4_counted_193 : decode cX4_counted 193 = .ok (.iinc 3 1, 3) := by decide +kernel
theorem dX4_counted_196 : decode cX4_counted 196 = .ok (.goto (-21), 3) := by decide +kernel
theorem dX4_counted_199 : decode cX4_counted 199 = .ok (.iload_n 2, 1) := by decide +kernel
theorem dX4_counted_200 : decode cX4_counted 200 = .ok (.ireturn, 1) := by decide +kernel
set_option maxRecDepth 20000 in
theorem ggX4_count_X4_isIn : GoodIn wsX4_count wsX4_isIn := goodIn_r _ [5] (by decide +kernel) (by decide +kernel)
set_option maxRecDepth 20000 in
theorem gX4_count_X4_isIn : GoodIn wsX4_count (va_wsS RX4 32 yX4_isIn wsX4_isIn) := goodIn_app (goodIn_of _ (by decide +kernel)) ggX4_count_X4_isIn
set_option maxRecDepth 20000 in
theorem ggX4_count_X4_counted : GoodIn wsX4_count wsX4_counted := goodIn_r _ [9, 10, 11, 12, 13, 14, 4, 15, 16, 17, 18, 19, 20, 21, 22, 23, 24, 25, 26, 27, 28, 29, 30, 31, 32, 33, 38, 39, 40, 41, 42, 43, 44] (by decide +kernel) (by decide +kernel)
set_option maxRecDepth 20000 in
theorem gX4_count_X4_counted : GoodIn wsX4_count (wsV RX4 120 RX4 yX4_counted wsX4_counted) := goodIn_app (goodIn_of _ (by decide +kernel)) ggX4_count_X4_counted
set_option maxRecDepth 20000 in
theorem ggX4_count_X4_fail : GoodIn wsX4_count wsX4_fail := goodIn_r _ [37, 1, 38, 39, 40, 41, 42, 43, 44] (by decide +kernel) (by decide +kernel)
set_option maxRecDepth 20000 in
theorem gX4_count_X4_fail : GoodIn wsX4_count (wsV RX4 72 RX4 yX4_fail wsX4_fail) := goodIn_app (goodIn_of _ (by decide +kernel)) ggX4_count_X4_fail
theorem dX4_count_0 : decode cX4_count 0 = .ok (.aload_n 0, 1) := by decide +kernel
theorem dX4_count_1 : decode cX4_count 1 = .ok (.iconst 0, 1) := by decide +kernel
theorem dX4_count_2 : decode cX4_count 2 = .ok (.putfield 28, 3) := by decide +kernel
theorem dX4_count_5 : decode cX4_count 5 = .ok (.iload_n 1, 1) := by decide +kernel
theorem dX4_count_6 : decode cX4_count 6 = .ok (.iconst 0, 1) := by decide +kernel
theorem dX4_count_7 : decode cX4_count 7 = .ok (.bipush 8, 2) := by decide +kernel
theorem dX4_count_9 : decode cX4_count 9 = .ok (.invokestatic 32, 3) := by decide +kernel
theorem dX4_count_12 : decode cX4_count 12 = .ok (.ifCond .eq 11, 3) := by decide +kernel
theorem dX4_count_15 : decode cX4_count 15 = .ok (.aload_n 0, 1) := by decide +kernel
theorem dX4_count_16 : decode cX4_count 16 = .ok (.iload_n 1, 1) := by decide +kernel
theorem dX4_count_17 : decode cX4_count 17 = .ok (.invokevirtual 120, 3) := by decide +kernel
theorem dX4_count_20 : decode cX4_count 20 = .ok (.goto 8, 3) := by decide +kernel
theorem dX4_count_23 : decode cX4_count 23 = .ok (.aload_n 0, 1) := by decide +kernel
theorem dX4_count_24 : decode cX4_count 24 = .ok (.iconst 1, 1) := by decide +kernel
theorem dX4_count_25 : decode cX4_count 25 = .ok (.invokevirtual 72, 3) := by decide +kernel
theorem dX4_count_28 : decode cX4_count 28 = .ok (.ireturn, 1) := by decide +kernel
set_option maxRecDepth 20000 in
theorem ggX4_alive_X4_isAge : GoodIn wsX4_alive wsX4_isAge := goodIn_r _ [6, 7, 8, 5, 9] (by decide +kernel) (by decide +kernel)
set_option maxRecDepth 20000 in
theorem gX4_alive_X4_isAge : GoodIn wsX4_alive (va_wsS RX4 69 yX4_isAge wsX4_isAge) := goodIn_app (goodIn_of _ (by decide +kernel)) ggX4_alive_X4_isAge
set_option maxRecDepth 20000 in
theorem ggX4_alive_X4_isIn : GoodIn wsX4_alive wsX4_isIn := goodIn_r _ [9] (by decide +kernel) (by decide +kernel)
set_option maxRecDepth 20000 in
theorem gX4_alive_X4_isIn : GoodIn wsX4_alive (va_wsS RX4 32 yX4_isIn wsX4_isIn) := goodIn_app (goodIn_of _ (by decide +kernel)) ggX4_alive_X4_isIn
set_option maxRecDepth 20000 in
theorem ggX4_alive_X4_fail : GoodIn wsX4_alive wsX4_fail := goodIn_r _ [13, 1, 14, 15, 16, 17, 18, 19, 20] (by decide +kernel) (by decide +kernel)
set_option maxRecDepth 20000 in
theorem gX4_alive_X4_fail : GoodIn wsX4_alive (wsV RX4 72 RX4 yX4_fail wsX4_fail) := goodIn_app (goodIn_of _ (by decide +kernel)) ggX4_alive_X4_fail
theorem dX4_alive_0 : decode cX4_alive 0 = .ok (.aload_n 0, 1) := by decide +kernel
theorem dX4_alive_1 : decode cX4_alive 1 = .ok (.iconst 0, 1) := by decide +kernel
theorem dX4_alive_2 : decode cX4_alive 2 = .ok (.putfield 28, 3) := by decide +kernel
theorem dX4_alive_5 : decode cX4_alive 5 = .ok (.iload_n 1, 1) := by decide +kernel
theorem dX4_alive_6 : decode cX4_alive 6 = .ok (.invokestatic 69, 3) := by decide +kernel
theorem dX4_alive_9 : decode cX4_alive 9 = .ok (.ifCond .eq 13, 3) := by decide +kernel
theorem dX4_alive_12 : decode cX4_alive 12 = .ok (.iload_n 2, 1) := by decide +kernel
theorem dX4_alive_13 : decode cX4_alive 13 = .ok (.iconst 0, 1) := by decide +kernel
theorem dX4_alive_14 : decode cX4_alive 14 = .ok (.bipush 60, 2) := by decide +kernel
theorem dX4_alive_16 : decode cX4_alive 16 = .ok (.invokestatic 32, 3) := by decide +kernel
theorem dX4_alive_19 : decode cX4_alive 19 = .ok (.ifCond .ne 9, 3) := by decide +kernel
theorem dX4_alive_22 : decode cX4_alive 22 = .ok (.aload_n 0, 1) := by decide +kernel
theorem dX4_alive_23 : decode cX4_alive 23 = .ok (.iconst 1, 1) := by decide +kernel
theorem dX4_alive_24 : decode cX4_alive 24 = .ok (.invokevirtual 72, 3) := by decide +kernel
theorem dX4_alive_27 : decode cX4_alive 27 = .ok (.ireturn, 1) := by decide +kernel
theorem dX4_alive_28 : decode cX4_alive 28 = .ok (.iload_n 1, 1) := by decide +kernel
theorem dX4_alive_29 : decode cX4_alive 29 = .ok (.iload_n 2, 1) := by decide +kernel
theorem dX4_alive_30 : decode cX4_alive 30 = .ok (.iadd, 1) := by decide +kernel
theorem dX4_alive_31 : decode cX4_alive 31 = .ok (.bipush 100, 2) := by decide +kernel
theorem dX4_alive_33 : decode cX4_alive 33 = .ok (.if_icmp .lt 5, 3) := by decide +kernel
theorem dX4_alive_36 : decode cX4_alive 36 = .ok (.iconst 0, 1) := by decide +kernel
theorem dX4_alive_37 : decode cX4_alive 37 = .ok (.ireturn, 1) := by decide +kernel
theorem dX4_alive_38 : decode cX4_alive 38 = .ok (.sipush 1000, 3) := by decide +kernel
theorem dX4_alive_41 : decode cX4_alive 41 = .ok (.istore_n 3, 1) := by decide +kernel
theorem dX4_alive_42 : decode cX4_alive 42 = .ok (.iconst 0, 1) := by decide +kernel
theorem dX4_alive_43 : decode cX4_alive 43 = .ok (.istore 4, 2) := by decide +kernel
theorem dX4_alive_45 : decode cX4_alive 45 = .ok (.iload 4, 2) := by decide +kernel
theorem dX4_alive_47 : decode cX4_alive 47 = .ok (.iload_n 2, 1) := by decide +kernel
theorem dX4_alive_48 : decode cX4_alive 48 = .ok (.if_icmp .ge 32, 3) := by decide +kernel
theorem dX4_alive_51 : decode cX4_alive 51 = .ok (.iload_n 3, 1) := by decide +kernel
theorem dX4_alive_52 : decode cX4_alive 52 = .ok (.sipush 1000, 3) := by decide +kernel
theorem dX4_alive_55 : decode cX4_alive 55 = .ok (.aload_n 0, 1) := by decide +kernel
theorem dX4_alive_56 : decode cX4_alive 56 = .ok (.getfield 13, 3) := by decide +kernel
theorem dX4_alive_59 : decode cX4_alive 59 = .ok (.iload_n 1, 1) := by decide +kernel
theorem dX4_alive_60 : decode cX4_alive 60 = .ok (.bipush 50, 2) := by decide +kernel
theorem dX4_alive_62 : decode cX4_alive 62 = .ok (.isub, 1) := by decide +kernel
theorem dX4_alive_63 : decode cX4_alive 63 = .ok (.iload 4, 2) := by decide +kernel
theorem dX4_alive_65 : decode cX4_alive 65 = .ok (.iadd, 1) := by decide +kernel
theorem dX4_alive_66 : decode cX4_alive 66 = .ok (.iaload, 1) := by decide +kernel
theorem dX4_alive_67 : decode cX4_alive 67 = .ok (.isub, 1) := by decide +kernel
theorem dX4_alive_68 : decode cX4_alive 68 = .ok (.imul, 1) := by decide +kernel
theorem dX4_alive_69 : decode cX4_alive 69 = .ok (.sipush 1000, 3) := by decide +kernel
theorem dX4_alive_72 : decode cX4_alive 72 = .ok (.idiv, 1) := by decide +kernel
theorem dX4_alive_73 : decode cX4_alive 73 = .ok (.istore_n 3, 1) := by decide +kernel
theorem dX4_alive_74 : decode cX4_alive 74 = .ok (.iinc 4 1, 3) := by decide +kernel
theorem dX4_alive_77 : decode cX4_alive 77 = .ok (.goto (-32), 3) := by decide +kernel
theorem dX4_alive_80 : decode cX4_alive 80 = .ok (.iload_n 3, 1) := by decide +kernel
theorem dX4_alive_81 : decode cX4_alive 81 = .ok (.ireturn, 1) := by decide +kernel
theorem dX4_copy_0 : decode cX4_copy 0 = .ok (.aload_n 0, 1) := by decide +kernel
theorem dX4_copy_1 : decode cX4_copy 1 = .ok (.arraylength, 1) := by decide +kernel
theorem dX4_copy_2 : decode cX4_copy 2 = .ok (.newarray .int, 2) := by decide +kernel
theorem dX4_copy_4 : decode cX4_copy 4 = .ok (.astore_n 1, 1) := by decide +kernel
theorem dX4_copy_5 : decode cX4_copy 5 = .ok (.aload_n 0, 1) := by decide +kernel
theorem dX4_copy_6 : decode cX4_copy 6 = .ok (.iconst 0, 1) := by decide +kernel
theorem dX4_copy_7 : decode cX4_copy 7 = .ok (.aload_n 1, 1) := by decide +kernel
theorem dX4_copy_8 : decode cX4_copy 8 = .ok (.iconst 0, 1) := by decide +kernel
theorem dX4_copy_9 : decode cX4_copy 9 = .ok (.aload_n 0, 1) := by decide +kernel
theorem dX4_copy_10 : decode cX4_copy 10 = .ok (.arraylength, 1) := by decide +kernel
theorem dX4_copy_11 : decode cX4_copy 11 = .ok (.invokestatic 91, 3) := by decide +kernel
theorem dX4_copy_14 : decode cX4_copy 14 = .ok (.aload_n 1, 1) := by decide +kernel
theorem dX4_copy_15 : decode cX4_copy 15 = .ok (.areturn, 1) := by decide +kernel
set_option maxRecDepth 20000 in
theorem ggX4_yearOn_X4_comeIn : GoodIn wsX4_yearOn wsX4_comeIn := goodIn_r _ [9, 1, 10, 11, 12, 13, 14, 32, 33, 34, 35, 36, 37, 38] (by decide +kernel) (by decide +kernel)
set_option maxRecDepth 20000 in
theorem gX4_yearOn_X4_comeIn : GoodIn wsX4_yearOn (wsV RX4 97 RX4 yX4_comeIn wsX4_comeIn) := goodIn_app (goodIn_of _ (by decide +kernel)) ggX4_yearOn_X4_comeIn
set_option maxRecDepth 20000 in
theorem ggX4_yearOn_X4_isAlive : GoodIn wsX4_yearOn wsX4_isAlive := goodIn_r _ [18, 19, 20, 21, 8, 22, 23, 32, 33, 34, 35, 36, 37, 38] (by decide +kernel) (by decide +kernel)
set_option maxRecDepth 20000 in
theorem gX4_yearOn_X4_isAlive : GoodIn wsX4_yearOn (wsV RX4 51 RX4 yX4_isAlive wsX4_isAlive) := goodIn_app (goodIn_of _ (by decide +kernel)) ggX4_yearOn_X4_isAlive
set_option maxRecDepth 20000 in
theorem ggX4_yearOn_X4_wi : GoodIn wsX4_yearOn wsX4_wi := goodIn_r _ [22, 23, 32, 33, 34, 35, 36, 37, 38] (by decide +kernel) (by decide +kernel)
set_option maxRecDepth 20000 in
theorem gX4_yearOn_X4_wi : GoodIn wsX4_yearOn (wsV RX4 39 RX4 yX4_wi wsX4_wi) := goodIn_app (goodIn_of _ (by decide +kernel)) ggX4_yearOn_X4_wi
set_option maxRecDepth 20000 in
theorem ggX4_yearOn_X4_payOut : GoodIn wsX4_yearOn wsX4_payOut := goodIn_r _ [27, 1, 19, 20, 21, 8, 22, 23, 28, 29, 30, 31, 32, 33, 34, 35, 36, 37, 38] (by decide +kernel) (by decide +kernel)
set_option maxRecDepth 20000 in
theorem gX4_yearOn_X4_payOut : GoodIn wsX4_yearOn (wsV RX4 107 RX4 yX4_payOut wsX4_payOut) := goodIn_app (goodIn_of _ (by decide +kernel)) ggX4_yearOn_X4_payOut
set_option maxRecDepth 20000 in
theorem ggX4_yearOn_X4_let : GoodIn wsX4_yearOn wsX4_let := goodIn_r _ [31, 23, 32, 33, 34, 35, 36, 37, 38] (by decide +kernel) (by decide +kernel)
set_option maxRecDepth 20000 in
theorem gX4_yearOn_X4_let : GoodIn wsX4_yearOn (wsV RX4 65 RX4 yX4_let wsX4_let) := goodIn_app (goodIn_of _ (by decide +kernel)) ggX4_yearOn_X4_let
theorem dX4_yearOn_0 : decode cX4_yearOn 0 = .ok (.aload_n 0, 1) := by decide +kernel
theorem dX4_yearOn_1 : decode cX4_yearOn 1 = .ok (.getfield 19, 3) := by decide +kernel
theorem dX4_yearOn_4 : decode cX4_yearOn 4 = .ok (.iconst 1, 1) := by decide +kernel
theorem dX4_yearOn_5 : decode cX4_yearOn 5 = .ok (.iaload, 1) := by decide +kernel
theorem dX4_yearOn_6 : decode cX4_yearOn 6 = .ok (.ifCond .le 26, 3) := by decide +kernel
theorem dX4_yearOn_9 : decode cX4_yearOn 9 = .ok (.aload_n 0, 1) := by decide +kernel
theorem dX4_yearOn_10 : decode cX4_yearOn 10 = .ok (.aload_n 0, 1) := by decide +kernel
theorem dX4_yearOn_11 : decode cX4_yearOn 11 = .ok (.getfield 19, 3) := by decide +kernel
theorem dX4_yearOn_14 : decode cX4_yearOn 14 = .ok (.iconst 1, 1) := by decide +kernel
theorem dX4_yearOn_15 : decode cX4_yearOn 15 = .ok (.iaload, 1) := by decide +kernel
theorem dX4_yearOn_16 : decode cX4_yearOn 16 = .ok (.i2l, 1) := by decide +kernel
theorem dX4_yearOn_17 : decode cX4_yearOn 17 = .ok (.aload_n 0, 1) := by decide +kernel
theorem dX4_yearOn_18 : decode cX4_yearOn 18 = .ok (.getfield 7, 3) := by decide +kernel
theorem dX4_yearOn_21 : decode cX4_yearOn 21 = .ok (.iconst 0, 1) := by decide +kernel
theorem dX4_yearOn_22 : decode cX4_yearOn 22 = .ok (.iaload, 1) := by decide +kernel
theorem dX4_yearOn_23 : decode cX4_yearOn 23 = .ok (.i2l, 1) := by decide +kernel
theorem dX4_yearOn_24 : decode cX4_yearOn 24 = .ok (.lmul, 1) := by decide +kernel
theorem dX4_yearOn_25 : decode cX4_yearOn 25 = .ok (.ldc2_w 123, 3) := by decide +kernel
theorem dX4_yearOn_28 : decode cX4_yearOn 28 = .ok (.ldiv, 1) := by decide +kernel
theorem dX4_yearOn_29 : decode cX4_yearOn 29 = .ok (.invokevirtual 97, 3) := by decide +kernel
theorem dX4_yearOn_32 : decode cX4_yearOn 32 = .ok (.iconst 0, 1) := by decide +kernel
theorem dX4_yearOn_33 : decode cX4_yearOn 33 = .ok (.istore_n 1, 1) := by decide +kernel
theorem dX4_yearOn_34 : decode cX4_yearOn 34 = .ok (.iload_n 1, 1) := by decide +kernel
theorem dX4_yearOn_35 : decode cX4_yearOn 35 = .ok (.aload_n 0, 1) := by decide +kernel
theorem dX4_yearOn_36 : decode cX4_yearOn 36 = .ok (.getfield 36, 3) := by decide +kernel
theorem dX4_yearOn_39 : decode cX4_yearOn 39 = .ok (.if_icmp .ge 103, 3) := by decide +kernel
theorem dX4_yearOn_42 : decode cX4_yearOn 42 = .ok (.aload_n 0, 1) := by decide +kernel
theorem dX4_yearOn_43 : decode cX4_yearOn 43 = .ok (.iload_n 1, 1) := by decide +kernel
theorem dX4_yearOn_44 : decode cX4_yearOn 44 = .ok (.invokevirtual 51, 3) := by decide +kernel
theorem dX4_yearOn_47 : decode cX4_yearOn 47 = .ok (.ifCond .ne 6, 3) := by decide +kernel
theorem dX4_yearOn_50 : decode cX4_yearOn 50 = .ok (.goto 86, 3) := by decide +kernel
theorem dX4_yearOn_53 : decode cX4_yearOn 53 = .ok (.aload_n 0, 1) := by decide +kernel
theorem dX4_yearOn_54 : decode cX4_yearOn 54 = .ok (.iload_n 1, 1) := by decide +kernel
theorem dX4_yearOn_55 : decode cX4_yearOn 55 = .ok (.iconst 2, 1) := by decide +kernel
theorem dX4_yearOn_56 : decode cX4_yearOn 56 = .ok (.invokevirtual 39, 3) := by decide +kernel
theorem dX4_yearOn_59 : decode cX4_yearOn 59 = .ok (.ifCond .ne 17, 3) := by decide +kernel
theorem dX4_yearOn_62 : decode cX4_yearOn 62 = .ok (.aload_n 0, 1) := by decide +kernel
theorem dX4_yearOn_63 : decode cX4_yearOn 63 = .ok (.iload_n 1, 1) := by decide +kernel
theorem dX4_yearOn_64 : decode cX4_yearOn 64 = .ok (.aload_n 0, 1) := by decide +kernel
theorem dX4_yearOn_65 : decode cX4_yearOn 65 = .ok (.iload_n 1, 1) := by decide +kernel
theorem dX4_yearOn_66 : decode cX4_yearOn 66 = .ok (.iconst 1, 1) := by decide +kernel
theorem dX4_yearOn_67 : decode cX4_yearOn 67 = .ok (.invokevirtual 39, 3) := by decide +kernel
theorem dX4_yearOn_70 : decode cX4_yearOn 70 = .ok (.invokevirtual 107, 3) := by decide +kernel
theorem dX4_yearOn_73 : decode cX4_yearOn 73 = .ok (.goto 17, 3) := by decide +kernel
theorem dX4_yearOn_76 : decode cX4_yearOn 76 = .ok (.aload_n 0, 1) := by decide +kernel
theorem dX4_yearOn_77 : decode cX4_yearOn 77 = .ok (.iload_n 1, 1) := by decide +kernel
theorem dX4_yearOn_78 : decode cX4_yearOn 78 = .ok (.iconst 2, 1) := by decide +kernel
theorem dX4_yearOn_79 : decode cX4_yearOn 79 = .ok (.aload_n 0, 1) := by decide +kernel
theorem dX4_yearOn_80 : decode cX4_yearOn 80 = .ok (.iload_n 1, 1) := by decide +kernel
theorem dX4_yearOn_81 : decode cX4_yearOn 81 = .ok (.iconst 2, 1) := by decide +kernel
theorem dX4_yearOn_82 : decode cX4_yearOn 82 = .ok (.invokevirtual 39, 3) := by decide +kernel
theorem dX4_yearOn_85 : decode cX4_yearOn 85 = .ok (.iconst 1, 1) := by decide +kernel
theorem dX4_yearOn_86 : decode cX4_yearOn 86 = .ok (.isub, 1) := by decide +kernel
theorem dX4_yearOn_87 : decode cX4_yearOn 87 = .ok (.invokevirtual 65, 3) := by decide +kernel
theorem dX4_yearOn_90 : decode cX4_yearOn 90 = .ok (.aload_n 0, 1) := by decide +kernel
theorem dX4_yearOn_91 : decode cX4_yearOn 91 = .ok (.iload_n 1, 1) := by decide +kernel
theorem dX4_yearOn_92 : decode cX4_yearOn 92 = .ok (.iconst 0, 1) := by decide +kernel
theorem dX4_yearOn_93 : decode cX4_yearOn 93 = .ok (.aload_n 0, 1) := by decide +kernel
theorem dX4_yearOn_94 : decode cX4_yearOn 94 = .ok (.iload_n 1, 1) := by decide +kernel
theorem dX4_yearOn_95 : decode cX4_yearOn 95 = .ok (.iconst 0, 1) := by decide +kernel
theorem dX4_yearOn_96 : decode cX4_yearOn 96 = .ok (.invokevirtual 39, 3) := by decide +kernel
theorem dX4_yearOn_99 : decode cX4_yearOn 99 = .ok (.iconst 1, 1) := by decide +kernel
theorem dX4_yearOn_100 : decode cX4_yearOn 100 = .ok (.iadd, 1) := by decide +kernel
theorem dX4_yearOn_101 : decode cX4_yearOn 101 = .ok (.invokevirtual 65, 3) := by decide +kernel
theorem dX4_yearOn_104 : decode cX4_yearOn 104 = .ok (.aload_n 0, 1) := by decide +kernel
theorem dX4_yearOn_105 : decode cX4_yearOn 105 = .ok (.iload_n 1, 1) := by decide +kernel
theorem dX4_yearOn_106 : decode cX4_yearOn 106 = .ok (.iconst 3, 1) := by decide +kernel
theorem dX4_yearOn_107 : decode cX4_yearOn 107 = .ok (.aload_n 0, 1) := by decide +kernel
theorem dX4_yearOn_108 : decode cX4_yearOn 108 = .ok (.iload_n 1, 1) := by decide +kernel
theorem dX4_yearOn_109 : decode cX4_yearOn 109 = .ok (.iconst 3, 1) := by decide +kernel
theorem dX4_yearOn_110 : decode cX4_yearOn 110 = .ok (.invokevirtual 39, 3) := by decide +kernel
theorem dX4_yearOn_113 : decode cX4_yearOn 113 = .ok (.iconst 1, 1) := by decide +kernel
theorem dX4_yearOn_114 : decode cX4_yearOn 114 = .ok (.iadd, 1) := by decide +kernel
theorem dX4_yearOn_115 : decode cX4_yearOn 115 = .ok (.invokevirtual 65, 3) := by decide +kernel
theorem dX4_yearOn_118 : decode cX4_yearOn 118 = .ok (.aload_n 0, 1) := by decide +kernel
theorem dX4_yearOn_119 : decode cX4_yearOn 119 = .ok (.iload_n 1, 1) := by decide +kernel
theorem dX4_yearOn_120 : decode cX4_yearOn 120 = .ok (.iconst 0, 1) := by decide +kernel
theorem dX4_yearOn_121 : decode cX4_yearOn 121 = .ok (.invokevirtual 39, 3) := by decide +kernel
theorem dX4_yearOn_124 : decode cX4_yearOn 124 = .ok (.bipush 100, 2) := by decide +kernel
theorem dX4_yearOn_126 : decode cX4_yearOn 126 = .ok (.if_icmp .ne 10, 3) := by decide +kernel
theorem dX4_yearOn_129 : decode cX4_yearOn 129 = .ok (.aload_n 0, 1) := by decide +kernel
theorem dX4_yearOn_130 : decode cX4_yearOn 130 = .ok (.iload_n 1, 1) := by decide +kernel
theorem dX4_yearOn_131 : decode cX4_yearOn 131 = .ok (.iconst 4, 1) := by decide +kernel
theorem dX4_yearOn_132 : decode cX4_yearOn 132 = .ok (.iconst 1, 1) := by decide +kernel
theorem dX4_yearOn_133 : decode cX4_yearOn 133 = .ok (.invokevirtual 65, 3) := by decide +kernel
theorem dX4_yearOn_136 : decode cX4_yearOn 136 = .ok (.iinc 1 1, 3) := by decide +kernel
theorem dX4_yearOn_139 : decode cX4_yearOn 139 = .ok (.goto (-105), 3) := by decide +kernel
theorem dX4_yearOn_142 : decode cX4_yearOn 142 = .ok (.aload_n 0, 1) := by decide +kernel
theorem dX4_yearOn_143 : decode cX4_yearOn 143 = .ok (.getfield 19, 3) := by decide +kernel
theorem dX4_yearOn_146 : decode cX4_yearOn 146 = .ok (.iconst 0, 1) := by decide +kernel
theorem dX4_yearOn_147 : decode cX4_yearOn 147 = .ok (.dup2, 1) := by decide +kernel
theorem dX4_yearOn_148 : decode cX4_yearOn 148 = .ok (.iaload, 1) := by decide +kernel
theorem dX4_yearOn_149 : decode cX4_yearOn 149 = .ok (.iconst 1, 1) := by decide +kernel
theorem dX4_yearOn_150 : decode cX4_yearOn 150 = .ok (.iadd, 1) := by decide +kernel
theorem dX4_yearOn_151 : decode cX4_yearOn 151 = .ok (.iastore, 1) := by decide +kernel
theorem dX4_yearOn_152 : decode cX4_yearOn 152 = .ok (.return_, 1) := by decide +kernel
set_option maxRecDepth 20000 in
theorem ggX4_yearsOn_X4_yearOn : GoodIn wsX4_yearsOn wsX4_yearOn := goodIn_r _ [5, 6, 7, 8, 9, 10, 11, 12, 4, 13, 14, 15, 16, 17, 18, 19, 20, 21, 22, 23, 24, 25, 26, 27, 28, 29, 30, 31, 32, 33, 34, 35, 36, 37, 38, 39, 40, 41, 42] (by decide +kernel) (by decide +kernel)
set_option maxRecDepth 20000 in
theorem gX4_yearsOn_X4_yearOn : GoodIn wsX4_yearsOn (wsV RX4 125 RX4 yX4_yearOn wsX4_yearOn) := goodIn_app (goodIn_of _ (by decide +kernel)) ggX4_yearsOn_X4_yearOn
theorem dX4_yearsOn_0 : decode cX4_yearsOn 0 = .ok (.iconst 0, 1) := by decide +kernel
theorem dX4_yearsOn_1 : decode cX4_yearsOn 1 = .ok (.istore_n 2, 1) := by decide +kernel
theorem dX4_yearsOn_2 : decode cX4_yearsOn 2 = .ok (.iload_n 2, 1) := by decide +kernel
theorem dX4_yearsOn_3 : decode cX4_yearsOn 3 = .ok (.iload_n 1, 1) := by decide +kernel
theorem dX4_yearsOn_4 : decode cX4_yearsOn 4 = .ok (.if_icmp .ge 13, 3) := by decide +kernel
theorem dX4_yearsOn_7 : decode cX4_yearsOn 7 = .ok (.aload_n 0, 1) := by decide +kernel
theorem dX4_yearsOn_8 : decode cX4_yearsOn 8 = .ok (.invokevirtual 125, 3) := by decide +kernel
theorem dX4_yearsOn_11 : decode cX4_yearsOn 11 = .ok (.iinc 2 1, 3) := by decide +kernel
theorem dX4_yearsOn_14 : decode cX4_yearsOn 14 = .ok (.goto (-12), 3) := by decide +kernel
theorem dX4_yearsOn_17 : decode cX4_yearsOn 17 = .ok (.return_, 1) := by decide +kernel
set_option maxRecDepth 20000 in
theorem ggX4_pass_X4_isIn : GoodIn wsX4_pass wsX4_isIn := goodIn_r _ [6] (by decide +kernel) (by decide +kernel)
set_option maxRecDepth 20000 in
theorem gX4_pass_X4_isIn : GoodIn wsX4_pass (va_wsS RX4 32 yX4_isIn wsX4_isIn) := goodIn_app (goodIn_of _ (by decide +kernel)) ggX4_pass_X4_isIn
set_option maxRecDepth 20000 in
theorem ggX4_pass_X4_fail : GoodIn wsX4_pass wsX4_fail := goodIn_r _ [10, 1, 48, 49, 50, 51, 52, 53, 54] (by decide +kernel) (by decide +kernel)
set_option maxRecDepth 20000 in
theorem gX4_pass_X4_fail : GoodIn wsX4_pass (wsV RX4 72 RX4 yX4_fail wsX4_fail) := goodIn_app (goodIn_of _ (by decide +kernel)) ggX4_pass_X4_fail
set_option maxRecDepth 20000 in
theorem ggX4_pass_X4_yearsOn : GoodIn wsX4_pass wsX4_yearsOn := goodIn_r _ [14, 15, 16, 17, 5, 18, 2, 19, 20, 21, 22, 23, 24, 25, 26, 27, 28, 29, 30, 31, 32, 33, 34, 35, 36, 37, 38, 39, 40, 41, 42, 43, 44, 45, 46, 47, 48, 49, 50, 51, 52, 53, 54] (by decide +kernel) (by decide +kernel)
set_option maxRecDepth 20000 in
theorem gX4_pass_X4_yearsOn : GoodIn wsX4_pass (wsV RX4 128 RX4 yX4_yearsOn wsX4_yearsOn) := goodIn_app (goodIn_of _ (by decide +kernel)) ggX4_pass_X4_yearsOn
theorem dX4_pass_0 : decode cX4_pass 0 = .ok (.aload_n 0, 1) := by decide +kernel
theorem dX4_pass_1 : decode cX4_pass 1 = .ok (.iconst 0, 1) := by decide +kernel
theorem dX4_pass_2 : decode cX4_pass 2 = .ok (.putfield 28, 3) := by decide +kernel
theorem dX4_pass_5 : decode cX4_pass 5 = .ok (.iload_n 1, 1) := by decide +kernel
theorem dX4_pass_6 : decode cX4_pass 6 = .ok (.iconst 1, 1) := by decide +kernel
theorem dX4_pass_7 : decode cX4_pass 7 = .ok (.bipush 50, 2) := by decide +kernel
theorem dX4_pass_9 : decode cX4_pass 9 = .ok (.invokestatic 32, 3) := by decide +kernel
theorem dX4_pass_12 : decode cX4_pass 12 = .ok (.ifCond .ne 9, 3) := by decide +kernel
theorem dX4_pass_15 : decode cX4_pass 15 = .ok (.aload_n 0, 1) := by decide +kernel
theorem dX4_pass_16 : decode cX4_pass 16 = .ok (.iconst 1, 1) := by decide +kernel
theorem dX4_pass_17 : decode cX4_pass 17 = .ok (.invokevirtual 72, 3) := by decide +kernel
theorem dX4_pass_20 : decode cX4_pass 20 = .ok (.ireturn, 1) := by decide +kernel
theorem dX4_pass_21 : decode cX4_pass 21 = .ok (.aload_n 0, 1) := by decide +kernel
theorem dX4_pass_22 : decode cX4_pass 22 = .ok (.getfield 19, 3) := by decide +kernel
theorem dX4_pass_25 : decode cX4_pass 25 = .ok (.iconst 2, 1) := by decide +kernel
theorem dX4_pass_26 : decode cX4_pass 26 = .ok (.iaload, 1) := by decide +kernel
theorem dX4_pass_27 : decode cX4_pass 27 = .ok (.istore_n 2, 1) := by decide +kernel
theorem dX4_pass_28 : decode cX4_pass 28 = .ok (.aload_n 0, 1) := by decide +kernel
theorem dX4_pass_29 : decode cX4_pass 29 = .ok (.iload_n 1, 1) := by decide +kernel
theorem dX4_pass_30 : decode cX4_pass 30 = .ok (.invokevirtual 128, 3) := by decide +kernel
theorem dX4_pass_33 : decode cX4_pass 33 = .ok (.aload_n 0, 1) := by decide +kernel
theorem dX4_pass_34 : decode cX4_pass 34 = .ok (.getfield 19, 3) := by decide +kernel
theorem dX4_pass_37 : decode cX4_pass 37 = .ok (.iconst 2, 1) := by decide +kernel
theorem dX4_pass_38 : decode cX4_pass 38 = .ok (.iaload, 1) := by decide +kernel
theorem dX4_pass_39 : decode cX4_pass 39 = .ok (.iload_n 2, 1) := by decide +kernel
theorem dX4_pass_40 : decode cX4_pass 40 = .ok (.isub, 1) := by decide +kernel
theorem dX4_pass_41 : decode cX4_pass 41 = .ok (.ireturn, 1) := by decide +kernel
set_option maxRecDepth 20000 in
theorem ggX4_foresee_X4_isIn : GoodIn wsX4_foresee wsX4_isIn := goodIn_r _ [7] (by decide +kernel) (by decide +kernel)
set_option maxRecDepth 20000 in
theorem gX4_foresee_X4_isIn : GoodIn wsX4_foresee (va_wsS RX4 32 yX4_isIn wsX4_isIn) := goodIn_app (goodIn_of _ (by decide +kernel)) ggX4_foresee_X4_isIn
set_option maxRecDepth 20000 in
theorem ggX4_foresee_X4_fail : GoodIn wsX4_foresee wsX4_fail := goodIn_r _ [11, 1, 73, 74, 75, 76, 77, 78, 79] (by decide +kernel) (by decide +kernel)
set_option maxRecDepth 20000 in
theorem gX4_foresee_X4_fail : GoodIn wsX4_foresee (wsV RX4 72 RX4 yX4_fail wsX4_fail) := goodIn_app (goodIn_of _ (by decide +kernel)) ggX4_foresee_X4_fail
set_option maxRecDepth 20000 in
theorem ggX4_foresee_X4_copy : GoodIn wsX4_foresee wsX4_copy := goodIn_r _ [14, 15, 16, 17, 18, 19] (by decide +kernel) (by decide +kernel)
set_option maxRecDepth 20000 in
theorem gX4_foresee_X4_copy : GoodIn wsX4_foresee (va_wsS RX4 132 yX4_copy wsX4_copy) := goodIn_app (goodIn_of _ (by decide +kernel)) ggX4_foresee_X4_copy
set_option maxRecDepth 20000 in
theorem ggX4_foresee_X4_yearsOn : GoodIn wsX4_foresee wsX4_yearsOn := goodIn_r _ [23, 24, 25, 26, 6, 27, 3, 28, 29, 30, 31, 32, 33, 34, 35, 36, 37, 38, 39, 40, 41, 42, 43, 44, 45, 46, 47, 2, 48, 49, 50, 51, 52, 53, 54, 55, 73, 74, 75, 76, 77, 78, 79] (by decide +kernel) (by decide +kernel)
set_option maxRecDepth 20000 in
theorem gX4_foresee_X4_yearsOn : GoodIn wsX4_foresee (wsV RX4 128 RX4 yX4_yearsOn wsX4_yearsOn) := goodIn_app (goodIn_of _ (by decide +kernel)) ggX4_foresee_X4_yearsOn
set_option maxRecDepth 20000 in
theorem ggX4_foresee_X4_counted : GoodIn wsX4_foresee wsX4_counted := goodIn_r _ [59, 3, 30, 40, 41, 42, 6, 43, 44, 45, 46, 47, 2, 60, 61, 62, 63, 64, 65, 66, 67, 68, 69, 70, 71, 72, 73, 74, 75, 76, 77, 78, 79] (by decide +kernel) (by decide +kernel)
set_option maxRecDepth 20000 in
theorem gX4_foresee_X4_counted : GoodIn wsX4_foresee (wsV RX4 120 RX4 yX4_counted wsX4_counted) := goodIn_app (goodIn_of _ (by decide +kernel)) ggX4_foresee_X4_counted
theorem dX4_foresee_0 : decode cX4_foresee 0 = .ok (.aload_n 0, 1) := by decide +kernel
theorem dX4_foresee_1 : decode cX4_foresee 1 = .ok (.iconst 0, 1) := by decide +kernel
theorem dX4_foresee_2 : decode cX4_foresee 2 = .ok (.putfield 28, 3) := by decide +kernel
theorem dX4_foresee_5 : decode cX4_foresee 5 = .ok (.iload_n 1, 1) := by decide +kernel
theorem dX4_foresee_6 : decode cX4_foresee 6 = .ok (.iconst 1, 1) := by decide +kernel
theorem dX4_foresee_7 : decode cX4_foresee 7 = .ok (.bipush 50, 2) := by decide +kernel
theorem dX4_foresee_9 : decode cX4_foresee 9 = .ok (.invokestatic 32, 3) := by decide +kernel
theorem dX4_foresee_12 : decode cX4_foresee 12 = .ok (.ifCond .ne 9, 3) := by decide +kernel
theorem dX4_foresee_15 : decode cX4_foresee 15 = .ok (.aload_n 0, 1) := by decide +kernel
theorem dX4_foresee_16 : decode cX4_foresee 16 = .ok (.iconst 1, 1) := by decide +kernel
theorem dX4_foresee_17 : decode cX4_foresee 17 = .ok (.invokevirtual 72, 3) := by decide +kernel
theorem dX4_foresee_20 : decode cX4_foresee 20 = .ok (.ireturn, 1) := by decide +kernel
theorem dX4_foresee_21 : decode cX4_foresee 21 = .ok (.iload_n 2, 1) := by decide +kernel
theorem dX4_foresee_22 : decode cX4_foresee 22 = .ok (.iconst 2, 1) := by decide +kernel
theorem dX4_foresee_23 : decode cX4_foresee 23 = .ok (.bipush 7, 2) := by decide +kernel
theorem dX4_foresee_25 : decode cX4_foresee 25 = .ok (.invokestatic 32, 3) := by decide +kernel
theorem dX4_foresee_28 : decode cX4_foresee 28 = .ok (.ifCond .ne 9, 3) := by decide +kernel
theorem dX4_foresee_31 : decode cX4_foresee 31 = .ok (.aload_n 0, 1) := by decide +kernel
theorem dX4_foresee_32 : decode cX4_foresee 32 = .ok (.iconst 2, 1) := by decide +kernel
theorem dX4_foresee_33 : decode cX4_foresee 33 = .ok (.invokevirtual 72, 3) := by decide +kernel
theorem dX4_foresee_36 : decode cX4_foresee 36 = .ok (.ireturn, 1) := by decide +kernel
theorem dX4_foresee_37 : decode cX4_foresee 37 = .ok (.aload_n 0, 1) := by decide +kernel
theorem dX4_foresee_38 : decode cX4_foresee 38 = .ok (.getfield 16, 3) := by decide +kernel
theorem dX4_foresee_41 : decode cX4_foresee 41 = .ok (.invokestatic 132, 3) := by decide +kernel
theorem dX4_foresee_44 : decode cX4_foresee 44 = .ok (.astore_n 3, 1) := by decide +kernel
theorem dX4_foresee_45 : decode cX4_foresee 45 = .ok (.aload_n 0, 1) := by decide +kernel
theorem dX4_foresee_46 : decode cX4_foresee 46 = .ok (.getfield 19, 3) := by decide +kernel
theorem dX4_foresee_49 : decode cX4_foresee 49 = .ok (.invokestatic 132, 3) := by decide +kernel
theorem dX4_foresee_52 : decode cX4_foresee 52 = .ok (.astore 4, 2) := by decide +kernel
theorem dX4_foresee_54 : decode cX4_foresee 54 = .ok (.aload_n 0, 1) := by decide +kernel
theorem dX4_foresee_55 : decode cX4_foresee 55 = .ok (.iload_n 1, 1) := by decide +kernel
theorem dX4_foresee_56 : decode cX4_foresee 56 = .ok (.invokevirtual 128, 3) := by decide +kernel
theorem dX4_foresee_59 : decode cX4_foresee 59 = .ok (.aload_n 0, 1) := by decide +kernel
theorem dX4_foresee_60 : decode cX4_foresee 60 = .ok (.iload_n 2, 1) := by decide +kernel
theorem dX4_foresee_61 : decode cX4_foresee 61 = .ok (.invokevirtual 120, 3) := by decide +kernel
theorem dX4_foresee_64 : decode cX4_foresee 64 = .ok (.istore 5, 2) := by decide +kernel

theorem dX4_foresee_66 : decode cX4_foresee 66 = .ok (.aload_n 0, 1) := by decide +kernel
theorem dX4_foresee_67 : decode cX4_foresee 67 = .ok (.aload_n 3, 1) := by decide +kernel
theorem dX4_foresee_68 : decode cX4_foresee 68 = .ok (.putfield 16, 3) := by decide +kernel
theorem dX4_foresee_71 : decode cX4_foresee 71 = .ok (.aload_n 0, 1) := by decide +kernel
theorem dX4_foresee_72 : decode cX4_foresee 72 = .ok (.aload 4, 2) := by decide +kernel
theorem dX4_foresee_74 : decode cX4_foresee 74 = .ok (.putfield 19, 3) := by decide +kernel
theorem dX4_foresee_77 : decode cX4_foresee 77 = .ok (.iload 5, 2) := by decide +kernel
theorem dX4_foresee_79 : decode cX4_foresee 79 = .ok (.ireturn, 1) := by decide +kernel
set_option maxRecDepth 20000 in
theorem ggX4_lasts_X4_copy : GoodIn wsX4_lasts wsX4_copy := goodIn_r _ [7, 8, 9, 10, 11, 12] (by decide +kernel) (by decide +kernel)
set_option maxRecDepth 20000 in
theorem gX4_lasts_X4_copy : GoodIn wsX4_lasts (va_wsS RX4 132 yX4_copy wsX4_copy) := goodIn_app (goodIn_of _ (by decide +kernel)) ggX4_lasts_X4_copy
set_option maxRecDepth 20000 in
theorem ggX4_lasts_X4_yearOn : GoodIn wsX4_lasts wsX4_yearOn := goodIn_r _ [16, 3, 17, 18, 19, 20, 21, 22, 6, 23, 24, 25, 26, 27, 28, 29, 30, 31, 32, 33, 34, 35, 36, 2, 37, 38, 39, 40, 41, 42, 43, 44, 45, 46, 47, 48, 49, 50, 51] (by decide +kernel) (by decide +kernel)
set_option maxRecDepth 20000 in
theorem gX4_lasts_X4_yearOn : GoodIn wsX4_lasts (wsV RX4 125 RX4 yX4_yearOn wsX4_yearOn) := goodIn_app (goodIn_of _ (by decide +kernel)) ggX4_lasts_X4_yearOn
theorem dX4_lasts_0 : decode cX4_lasts 0 = .ok (.aload_n 0, 1) := by decide +kernel
theorem dX4_lasts_1 : decode cX4_lasts 1 = .ok (.iconst 0, 1) := by decide +kernel
theorem dX4_lasts_2 : decode cX4_lasts 2 = .ok (.putfield 28, 3) := by decide +kernel
theorem dX4_lasts_5 : decode cX4_lasts 5 = .ok (.aload_n 0, 1) := by decide +kernel
theorem dX4_lasts_6 : decode cX4_lasts 6 = .ok (.getfield 16, 3) := by decide +kernel
theorem dX4_lasts_9 : decode cX4_lasts 9 = .ok (.invokestatic 132, 3) := by decide +kernel
theorem dX4_lasts_12 : decode cX4_lasts 12 = .ok (.astore_n 1, 1) := by decide +kernel
theorem dX4_lasts_13 : decode cX4_lasts 13 = .ok (.aload_n 0, 1) := by decide +kernel
theorem dX4_lasts_14 : decode cX4_lasts 14 = .ok (.getfield 19, 3) := by decide +kernel
theorem dX4_lasts_17 : decode cX4_lasts 17 = .ok (.invokestatic 132, 3) := by decide +kernel
theorem dX4_lasts_20 : decode cX4_lasts 20 = .ok (.astore_n 2, 1) := by decide +kernel
theorem dX4_lasts_21 : decode cX4_lasts 21 = .ok (.iconst 0, 1) := by decide +kernel
theorem dX4_lasts_22 : decode cX4_lasts 22 = .ok (.istore_n 3, 1) := by decide +kernel
theorem dX4_lasts_23 : decode cX4_lasts 23 = .ok (.iload_n 3, 1) := by decide +kernel
theorem dX4_lasts_24 : decode cX4_lasts 24 = .ok (.bipush 60, 2) := by decide +kernel
theorem dX4_lasts_26 : decode cX4_lasts 26 = .ok (.if_icmp .gt 22, 3) := by decide +kernel
theorem dX4_lasts_29 : decode cX4_lasts 29 = .ok (.aload_n 0, 1) := by decide +kernel
theorem dX4_lasts_30 : decode cX4_lasts 30 = .ok (.getfield 19, 3) := by decide +kernel
theorem dX4_lasts_33 : decode cX4_lasts 33 = .ok (.iconst 1, 1) := by decide +kernel
theorem dX4_lasts_34 : decode cX4_lasts 34 = .ok (.iaload, 1) := by decide +kernel
theorem dX4_lasts_35 : decode cX4_lasts 35 = .ok (.ifCond .lt 13, 3) := by decide +kernel
theorem dX4_lasts_38 : decode cX4_lasts 38 = .ok (.aload_n 0, 1) := by decide +kernel
theorem dX4_lasts_39 : decode cX4_lasts 39 = .ok (.invokevirtual 125, 3) := by decide +kernel
theorem dX4_lasts_42 : decode cX4_lasts 42 = .ok (.iinc 3 1, 3) := by decide +kernel
theorem dX4_lasts_45 : decode cX4_lasts 45 = .ok (.goto (-22), 3) := by decide +kernel
theorem dX4_lasts_48 : decode cX4_lasts 48 = .ok (.aload_n 0, 1) := by decide +kernel
theorem dX4_lasts_49 : decode cX4_lasts 49 = .ok (.aload_n 1, 1) := by decide +kernel
theorem dX4_lasts_50 : decode cX4_lasts 50 = .ok (.putfield 16, 3) := by decide +kernel
theorem dX4_lasts_53 : decode cX4_lasts 53 = .ok (.aload_n 0, 1) := by decide +kernel
theorem dX4_lasts_54 : decode cX4_lasts 54 = .ok (.aload_n 2, 1) := by decide +kernel
theorem dX4_lasts_55 : decode cX4_lasts 55 = .ok (.putfield 19, 3) := by decide +kernel
theorem dX4_lasts_58 : decode cX4_lasts 58 = .ok (.iload_n 3, 1) := by decide +kernel
theorem dX4_lasts_59 : decode cX4_lasts 59 = .ok (.bipush 60, 2) := by decide +kernel
theorem dX4_lasts_61 : decode cX4_lasts 61 = .ok (.if_icmp .le 7, 3) := by decide +kernel
theorem dX4_lasts_64 : decode cX4_lasts 64 = .ok (.iconst (-1), 1) := by decide +kernel
theorem dX4_lasts_65 : decode cX4_lasts 65 = .ok (.goto 4, 3) := by decide +kernel
theorem dX4_lasts_68 : decode cX4_lasts 68 = .ok (.iload_n 3, 1) := by decide +kernel
theorem dX4_lasts_69 : decode cX4_lasts 69 = .ok (.ireturn, 1) := by decide +kernel
set_option maxRecDepth 20000 in
theorem ggX4_even_X4_reckon : GoodIn wsX4_even wsX4_reckon := goodIn_r _ [9, 10, 11, 2, 34, 35, 36, 37, 38, 39, 40] (by decide +kernel) (by decide +kernel)
set_option maxRecDepth 20000 in
theorem gX4_even_X4_reckon : GoodIn wsX4_even (wsV RX4 25 RX4 yX4_reckon wsX4_reckon) := goodIn_app (goodIn_of _ (by decide +kernel)) ggX4_even_X4_reckon
set_option maxRecDepth 20000 in
theorem ggX4_even_X4_keptForAll : GoodIn wsX4_even wsX4_keptForAll := goodIn_r _ [15, 16, 17, 18, 19, 8, 20, 21, 22, 23, 24, 25, 26, 27, 28, 29, 30, 31, 32, 33, 10, 34, 35, 36, 37, 38, 39, 40] (by decide +kernel) (by decide +kernel)
set_option maxRecDepth 20000 in
theorem gX4_even_X4_keptForAll : GoodIn wsX4_even (wsV RX4 116 RX4 yX4_keptForAll wsX4_keptForAll) := goodIn_app (goodIn_of _ (by decide +kernel)) ggX4_even_X4_keptForAll
theorem dX4_even_0 : decode cX4_even 0 = .ok (.aload_n 0, 1) := by decide +kernel
theorem dX4_even_1 : decode cX4_even 1 = .ok (.iconst 0, 1) := by decide +kernel
theorem dX4_even_2 : decode cX4_even 2 = .ok (.putfield 28, 3) := by decide +kernel
theorem dX4_even_5 : decode cX4_even 5 = .ok (.aload_n 0, 1) := by decide +kernel
theorem dX4_even_6 : decode cX4_even 6 = .ok (.getfield 7, 3) := by decide +kernel
theorem dX4_even_9 : decode cX4_even 9 = .ok (.iconst 0, 1) := by decide +kernel
theorem dX4_even_10 : decode cX4_even 10 = .ok (.iaload, 1) := by decide +kernel
theorem dX4_even_11 : decode cX4_even 11 = .ok (.istore_n 1, 1) := by decide +kernel
theorem dX4_even_12 : decode cX4_even 12 = .ok (.iconst (-1), 1) := by decide +kernel
theorem dX4_even_13 : decode cX4_even 13 = .ok (.istore_n 2, 1) := by decide +kernel
theorem dX4_even_14 : decode cX4_even 14 = .ok (.iconst 0, 1) := by decide +kernel
theorem dX4_even_15 : decode cX4_even 15 = .ok (.istore_n 3, 1) := by decide +kernel
theorem dX4_even_16 : decode cX4_even 16 = .ok (.iload_n 3, 1) := by decide +kernel
theorem dX4_even_17 : decode cX4_even 17 = .ok (.getstatic 75, 3) := by decide +kernel
theorem dX4_even_20 : decode cX4_even 20 = .ok (.iconst 0, 1) := by decide +kernel
theorem dX4_even_21 : decode cX4_even 21 = .ok (.iaload, 1) := by decide +kernel
theorem dX4_even_22 : decode cX4_even 22 = .ok (.if_icmp .gt 40, 3) := by decide +kernel
theorem dX4_even_25 : decode cX4_even 25 = .ok (.iload_n 2, 1) := by decide +kernel
theorem dX4_even_26 : decode cX4_even 26 = .ok (.iconst (-1), 1) := by decide +kernel
theorem dX4_even_27 : decode cX4_even 27 = .ok (.if_icmp .ne 35, 3) := by decide +kernel
theorem dX4_even_30 : decode cX4_even 30 = .ok (.aload_n 0, 1) := by decide +kernel
theorem dX4_even_31 : decode cX4_even 31 = .ok (.getfield 7, 3) := by decide +kernel
theorem dX4_even_34 : decode cX4_even 34 = .ok (.iconst 0, 1) := by decide +kernel
theorem dX4_even_35 : decode cX4_even 35 = .ok (.iload_n 3, 1) := by decide +kernel
theorem dX4_even_36 : decode cX4_even 36 = .ok (.iastore, 1) := by decide +kernel
theorem dX4_even_37 : decode cX4_even 37 = .ok (.aload_n 0, 1) := by decide +kernel
theorem dX4_even_38 : decode cX4_even 38 = .ok (.invokevirtual 25, 3) := by decide +kernel
theorem dX4_even_41 : decode cX4_even 41 = .ok (.aload_n 0, 1) := by decide +kernel
theorem dX4_even_42 : decode cX4_even 42 = .ok (.getfield 19, 3) := by decide +kernel
theorem dX4_even_45 : decode cX4_even 45 = .ok (.iconst 1, 1) := by decide +kernel
theorem dX4_even_46 : decode cX4_even 46 = .ok (.iaload, 1) := by decide +kernel
theorem dX4_even_47 : decode cX4_even 47 = .ok (.aload_n 0, 1) := by decide +kernel
theorem dX4_even_48 : decode cX4_even 48 = .ok (.invokevirtual 116, 3) := by decide +kernel
theorem dX4_even_51 : decode cX4_even 51 = .ok (.if_icmp .lt 5, 3) := by decide +kernel
theorem dX4_even_54 : decode cX4_even 54 = .ok (.iload_n 3, 1) := by decide +kernel
theorem dX4_even_55 : decode cX4_even 55 = .ok (.istore_n 2, 1) := by decide +kernel
theorem dX4_even_56 : decode cX4_even 56 = .ok (.iinc 3 1, 3) := by decide +kernel
theorem dX4_even_59 : decode cX4_even 59 = .ok (.goto (-43), 3) := by decide +kernel
theorem dX4_even_62 : decode cX4_even 62 = .ok (.aload_n 0, 1) := by decide +kernel
theorem dX4_even_63 : decode cX4_even 63 = .ok (.getfield 7, 3) := by decide +kernel
theorem dX4_even_66 : decode cX4_even 66 = .ok (.iconst 0, 1) := by decide +kernel
theorem dX4_even_67 : decode cX4_even 67 = .ok (.iload_n 1, 1) := by decide +kernel
theorem dX4_even_68 : decode cX4_even 68 = .ok (.iastore, 1) := by decide +kernel
theorem dX4_even_69 : decode cX4_even 69 = .ok (.aload_n 0, 1) := by decide +kernel
theorem dX4_even_70 : decode cX4_even 70 = .ok (.invokevirtual 25, 3) := by decide +kernel
theorem dX4_even_73 : decode cX4_even 73 = .ok (.iload_n 2, 1) := by decide +kernel
theorem dX4_even_74 : decode cX4_even 74 = .ok (.ireturn, 1) := by decide +kernel
set_option maxRecDepth 20000 in
theorem ggX4_affords_X4_isAge : GoodIn wsX4_affords wsX4_isAge := goodIn_r _ [6, 7, 8, 5, 9] (by decide +kernel) (by decide +kernel)
set_option maxRecDepth 20000 in
theorem gX4_affords_X4_isAge : GoodIn wsX4_affords (va_wsS RX4 69 yX4_isAge wsX4_isAge) := goodIn_app (goodIn_of _ (by decide +kernel)) ggX4_affords_X4_isAge
set_option maxRecDepth 20000 in
theorem ggX4_affords_X4_isLate : GoodIn wsX4_affords wsX4_isLate := goodIn_r _ [12, 7, 8, 5, 9] (by decide +kernel) (by decide +kernel)
set_option maxRecDepth 20000 in
theorem gX4_affords_X4_isLate : GoodIn wsX4_affords (va_wsS RX4 81 yX4_isLate wsX4_isLate) := goodIn_app (goodIn_of _ (by decide +kernel)) ggX4_affords_X4_isLate
set_option maxRecDepth 20000 in
theorem ggX4_affords_X4_isIn : GoodIn wsX4_affords wsX4_isIn := goodIn_r _ [9] (by decide +kernel) (by decide +kernel)
set_option maxRecDepth 20000 in
theorem gX4_affords_X4_isIn : GoodIn wsX4_affords (va_wsS RX4 32 yX4_isIn wsX4_isIn) := goodIn_app (goodIn_of _ (by decide +kernel)) ggX4_affords_X4_isIn
set_option maxRecDepth 20000 in
theorem ggX4_affords_X4_fail : GoodIn wsX4_affords wsX4_fail := goodIn_r _ [16, 1, 31, 32, 33, 34, 35, 36, 37] (by decide +kernel) (by decide +kernel)
set_option maxRecDepth 20000 in
theorem gX4_affords_X4_fail : GoodIn wsX4_affords (wsV RX4 72 RX4 yX4_fail wsX4_fail) := goodIn_app (goodIn_of _ (by decide +kernel)) ggX4_affords_X4_fail
set_option maxRecDepth 20000 in
theorem ggX4_affords_X4_worthOf : GoodIn wsX4_affords wsX4_worthOf := goodIn_r _ [20, 21, 31, 32, 33, 34, 35, 36, 37] (by decide +kernel) (by decide +kernel)
set_option maxRecDepth 20000 in
theorem gX4_affords_X4_worthOf : GoodIn wsX4_affords (wsV RX4 43 RX4 yX4_worthOf wsX4_worthOf) := goodIn_app (goodIn_of _ (by decide +kernel)) ggX4_affords_X4_worthOf
set_option maxRecDepth 20000 in
theorem ggX4_affords_X4_priceOf : GoodIn wsX4_affords wsX4_priceOf := goodIn_r _ [25, 26, 27, 28, 29, 30, 17, 18, 19, 5, 20, 21, 31, 32, 33, 34, 35, 36, 37] (by decide +kernel) (by decide +kernel)
set_option maxRecDepth 20000 in
theorem gX4_affords_X4_priceOf : GoodIn wsX4_affords (wsV RX4 87 RX4 yX4_priceOf wsX4_priceOf) := goodIn_app (goodIn_of _ (by decide +kernel)) ggX4_affords_X4_priceOf
theorem dX4_affords_0 : decode cX4_affords 0 = .ok (.aload_n 0, 1) := by decide +kernel
theorem dX4_affords_1 : decode cX4_affords 1 = .ok (.iconst 0, 1) := by decide +kernel
theorem dX4_affords_2 : decode cX4_affords 2 = .ok (.putfield 28, 3) := by decide +kernel
theorem dX4_affords_5 : decode cX4_affords 5 = .ok (.iload_n 1, 1) := by decide +kernel
theorem dX4_affords_6 : decode cX4_affords 6 = .ok (.invokestatic 69, 3) := by decide +kernel
theorem dX4_affords_9 : decode cX4_affords 9 = .ok (.ifCond .eq 20, 3) := by decide +kernel
theorem dX4_affords_12 : decode cX4_affords 12 = .ok (.iload_n 2, 1) := by decide +kernel
theorem dX4_affords_13 : decode cX4_affords 13 = .ok (.invokestatic 81, 3) := by decide +kernel
theorem dX4_affords_16 : decode cX4_affords 16 = .ok (.ifCond .eq 13, 3) := by decide +kernel
theorem dX4_affords_19 : decode cX4_affords 19 = .ok (.iload_n 3, 1) := by decide +kernel
theorem dX4_affords_20 : decode cX4_affords 20 = .ok (.iconst 1, 1) := by decide +kernel
theorem dX4_affords_21 : decode cX4_affords 21 = .ok (.ldc 112, 2) := by decide +kernel
theorem dX4_affords_23 : decode cX4_affords 23 = .ok (.invokestatic 32, 3) := by decide +kernel
theorem dX4_affords_26 : decode cX4_affords 26 = .ok (.ifCond .ne 9, 3) := by decide +kernel
theorem dX4_affords_29 : decode cX4_affords 29 = .ok (.aload_n 0, 1) := by decide +kernel
theorem dX4_affords_30 : decode cX4_affords 30 = .ok (.iconst 1, 1) := by decide +kernel
theorem dX4_affords_31 : decode cX4_affords 31 = .ok (.invokevirtual 72, 3) := by decide +kernel
theorem dX4_affords_34 : decode cX4_affords 34 = .ok (.ireturn, 1) := by decide +kernel
theorem dX4_affords_35 : decode cX4_affords 35 = .ok (.aload_n 0, 1) := by decide +kernel
theorem dX4_affords_36 : decode cX4_affords 36 = .ok (.iload_n 1, 1) := by decide +kernel
theorem dX4_affords_37 : decode cX4_affords 37 = .ok (.iload_n 2, 1) := by decide +kernel
theorem dX4_affords_38 : decode cX4_affords 38 = .ok (.invokevirtual 43, 3) := by decide +kernel
theorem dX4_affords_41 : decode cX4_affords 41 = .ok (.ifCond .ne 5, 3) := by decide +kernel
theorem dX4_affords_44 : decode cX4_affords 44 = .ok (.iconst 0, 1) := by decide +kernel
theorem dX4_affords_45 : decode cX4_affords 45 = .ok (.ireturn, 1) := by decide +kernel
theorem dX4_affords_46 : decode cX4_affords 46 = .ok (.sipush 999, 3) := by decide +kernel
theorem dX4_affords_49 : decode cX4_affords 49 = .ok (.istore 4, 2) := by decide +kernel
theorem dX4_affords_51 : decode cX4_affords 51 = .ok (.iload 4, 2) := by decide +kernel
theorem dX4_affords_53 : decode cX4_affords 53 = .ok (.ifCond .le 21, 3) := by decide +kernel
theorem dX4_affords_56 : decode cX4_affords 56 = .ok (.aload_n 0, 1) := by decide +kernel
theorem dX4_affords_57 : decode cX4_affords 57 = .ok (.iload_n 1, 1) := by decide +kernel
theorem dX4_affords_58 : decode cX4_affords 58 = .ok (.iload 4, 2) := by decide +kernel
theorem dX4_affords_60 : decode cX4_affords 60 = .ok (.iload_n 2, 1) := by decide +kernel
theorem dX4_affords_61 : decode cX4_affords 61 = .ok (.invokevirtual 87, 3) := by decide +kernel
theorem dX4_affords_64 : decode cX4_affords 64 = .ok (.iload_n 3, 1) := by decide +kernel
theorem dX4_affords_65 : decode cX4_affords 65 = .ok (.if_icmp .le 9, 3) := by decide +kernel
theorem dX4_affords_68 : decode cX4_affords 68 = .ok (.iinc 4 (-1), 3) := by decide +kernel
theorem dX4_affords_71 : decode cX4_affords 71 = .ok (.goto (-20), 3) := by decide +kernel
theorem dX4_affords_74 : decode cX4_affords 74 = .ok (.iload 4, 2) := by decide +kernel
theorem dX4_affords_76 : decode cX4_affords 76 = .ok (.ireturn, 1) := by decide +kernel
set_option maxRecDepth 20000 in
theorem ggX4_mean_X4_isAlive : GoodIn wsX4_mean wsX4_isAlive := goodIn_r _ [7, 8, 9, 10, 6, 11, 12, 31, 32, 33, 34, 35, 36, 37] (by decide +kernel) (by decide +kernel)
set_option maxRecDepth 20000 in
theorem gX4_mean_X4_isAlive : GoodIn wsX4_mean (wsV RX4 51 RX4 yX4_isAlive wsX4_isAlive) := goodIn_app (goodIn_of _ (by decide +kernel)) ggX4_mean_X4_isAlive
set_option maxRecDepth 20000 in
theorem ggX4_mean_X4_wi : GoodIn wsX4_mean wsX4_wi := goodIn_r _ [11, 12, 31, 32, 33, 34, 35, 36, 37] (by decide +kernel) (by decide +kernel)
set_option maxRecDepth 20000 in
theorem gX4_mean_X4_wi : GoodIn wsX4_mean (wsV RX4 39 RX4 yX4_wi wsX4_wi) := goodIn_app (goodIn_of _ (by decide +kernel)) ggX4_mean_X4_wi
set_option maxRecDepth 20000 in
theorem ggX4_mean_X4_counted : GoodIn wsX4_mean wsX4_counted := goodIn_r _ [16, 17, 2, 3, 4, 5, 6, 7, 8, 9, 10, 11, 12, 18, 19, 20, 21, 22, 23, 24, 25, 26, 27, 28, 29, 30, 31, 32, 33, 34, 35, 36, 37] (by decide +kernel) (by decide +kernel)
set_option maxRecDepth 20000 in
theorem gX4_mean_X4_counted : GoodIn wsX4_mean (wsV RX4 120 RX4 yX4_counted wsX4_counted) := goodIn_app (goodIn_of _ (by decide +kernel)) ggX4_mean_X4_counted
theorem dX4_mean_0 : decode cX4_mean 0 = .ok (.aload_n 0, 1) := by decide +kernel
theorem dX4_mean_1 : decode cX4_mean 1 = .ok (.iconst 0, 1) := by decide +kernel
theorem dX4_mean_2 : decode cX4_mean 2 = .ok (.putfield 28, 3) := by decide +kernel
theorem dX4_mean_5 : decode cX4_mean 5 = .ok (.iconst 0, 1) := by decide +kernel
theorem dX4_mean_6 : decode cX4_mean 6 = .ok (.istore_n 1, 1) := by decide +kernel
theorem dX4_mean_7 : decode cX4_mean 7 = .ok (.iconst 0, 1) := by decide +kernel
theorem dX4_mean_8 : decode cX4_mean 8 = .ok (.istore_n 2, 1) := by decide +kernel
theorem dX4_mean_9 : decode cX4_mean 9 = .ok (.iload_n 2, 1) := by decide +kernel
theorem dX4_mean_10 : decode cX4_mean 10 = .ok (.aload_n 0, 1) := by decide +kernel
theorem dX4_mean_11 : decode cX4_mean 11 = .ok (.getfield 36, 3) := by decide +kernel
theorem dX4_mean_14 : decode cX4_mean 14 = .ok (.if_icmp .ge 30, 3) := by decide +kernel
theorem dX4_mean_17 : decode cX4_mean 17 = .ok (.iload_n 1, 1) := by decide +kernel
theorem dX4_mean_18 : decode cX4_mean 18 = .ok (.aload_n 0, 1) := by decide +kernel
theorem dX4_mean_19 : decode cX4_mean 19 = .ok (.iload_n 2, 1) := by decide +kernel
theorem dX4_mean_20 : decode cX4_mean 20 = .ok (.invokevirtual 51, 3) := by decide +kernel
theorem dX4_mean_23 : decode cX4_mean 23 = .ok (.ifCond .eq 12, 3) := by decide +kernel
theorem dX4_mean_26 : decode cX4_mean 26 = .ok (.aload_n 0, 1) := by decide +kernel
theorem dX4_mean_27 : decode cX4_mean 27 = .ok (.iload_n 2, 1) := by decide +kernel
theorem dX4_mean_28 : decode cX4_mean 28 = .ok (.iconst 0, 1) := by decide +kernel
theorem dX4_mean_29 : decode cX4_mean 29 = .ok (.invokevirtual 39, 3) := by decide +kernel
theorem dX4_mean_32 : decode cX4_mean 32 = .ok (.goto 4, 3) := by decide +kernel
theorem dX4_mean_35 : decode cX4_mean 35 = .ok (.iconst 0, 1) := by decide +kernel
theorem dX4_mean_36 : decode cX4_mean 36 = .ok (.iadd, 1) := by decide +kernel
theorem dX4_mean_37 : decode cX4_mean 37 = .ok (.istore_n 1, 1) := by decide +kernel
theorem dX4_mean_38 : decode cX4_mean 38 = .ok (.iinc 2 1, 3) := by decide +kernel
theorem dX4_mean_41 : decode cX4_mean 41 = .ok (.goto (-32), 3) := by decide +kernel
theorem dX4_mean_44 : decode cX4_mean 44 = .ok (.aload_n 0, 1) := by decide +kernel
theorem dX4_mean_45 : decode cX4_mean 45 = .ok (.iconst 2, 1) := by decide +kernel
theorem dX4_mean_46 : decode cX4_mean 46 = .ok (.invokevirtual 120, 3) := by decide +kernel
theorem dX4_mean_49 : decode cX4_mean 49 = .ok (.istore_n 2, 1) := by decide +kernel
theorem dX4_mean_50 : decode cX4_mean 50 = .ok (.iload_n 2, 1) := by decide +kernel
theorem dX4_mean_51 : decode cX4_mean 51 = .ok (.ifCond .ne 7, 3) := by decide +kernel
theorem dX4_mean_54 : decode cX4_mean 54 = .ok (.dconst 0, 1) := by decide +kernel
theorem dX4_mean_55 : decode cX4_mean 55 = .ok (.goto 8, 3) := by decide +kernel
theorem dX4_mean_58 : decode cX4_mean 58 = .ok (.iload_n 1, 1) := by decide +kernel
theorem dX4_mean_59 : decode cX4_mean 59 = .ok (.i2d, 1) := by decide +kernel
theorem dX4_mean_60 : decode cX4_mean 60 = .ok (.iload_n 2, 1) := by decide +kernel
theorem dX4_mean_61 : decode cX4_mean 61 = .ok (.i2d, 1) := by decide +kernel
theorem dX4_mean_62 : decode cX4_mean 62 = .ok (.ddiv, 1) := by decide +kernel
theorem dX4_mean_63 : decode cX4_mean 63 = .ok (.dreturn, 1) := by decide +kernel
set_option maxRecDepth 20000 in
theorem ggX4_digest_X4_counted : GoodIn wsX4_digest wsX4_counted := goodIn_r _ [11, 12, 6, 13, 14, 15, 10, 16, 17, 18, 19, 20, 21, 22, 23, 24, 25, 26, 27, 28, 29, 30, 31, 32, 33, 34, 43, 44, 45, 46, 47, 48, 49] (by decide +kernel) (by decide +kernel)
set_option maxRecDepth 20000 in
theorem gX4_digest_X4_counted : GoodIn wsX4_digest (wsV RX4 120 RX4 yX4_counted wsX4_counted) := goodIn_app (goodIn_of _ (by decide +kernel)) ggX4_digest_X4_counted
set_option maxRecDepth 20000 in
theorem ggX4_digest_X4_widowTold : GoodIn wsX4_digest wsX4_widowTold := goodIn_r _ [38, 26, 27, 28, 10, 29, 13, 14, 15, 16, 17, 18, 19, 20, 21, 30, 31, 32, 33, 34, 39, 40, 41, 42, 4, 43, 44, 45, 46, 47, 48, 49] (by decide +kernel) (by decide +kernel)
set_option maxRecDepth 20000 in
theorem gX4_digest_X4_widowTold : GoodIn wsX4_digest (wsV RX4 113 RX4 yX4_widowTold wsX4_widowTold) := goodIn_app (goodIn_of _ (by decide +kernel)) ggX4_digest_X4_widowTold
theorem dX4_digest_0 : decode cX4_digest 0 = .ok (.aload_n 0, 1) := by decide +kernel
theorem dX4_digest_1 : decode cX4_digest 1 = .ok (.iconst 0, 1) := by decide +kernel
theorem dX4_digest_2 : decode cX4_digest 2 = .ok (.putfield 28, 3) := by decide +kernel
theorem dX4_digest_5 : decode cX4_digest 5 = .ok (.ldc2_w 136, 3) := by decide +kernel
theorem dX4_digest_8 : decode cX4_digest 8 = .ok (.lstore_n 1, 1) := by decide +kernel
theorem dX4_digest_9 : decode cX4_digest 9 = .ok (.iconst 0, 1) := by decide +kernel
theorem dX4_digest_10 : decode cX4_digest 10 = .ok (.istore_n 3, 1) := by decide +kernel
theorem dX4_digest_11 : decode cX4_digest 11 = .ok (.iload_n 3, 1) := by decide +kernel
theorem dX4_digest_12 : decode cX4_digest 12 = .ok (.bipush 9, 2) := by decide +kernel
theorem dX4_digest_14 : decode cX4_digest 14 = .ok (.if_icmp .ge 22, 3) := by decide +kernel
theorem dX4_digest_17 : decode cX4_digest 17 = .ok (.lload_n 1, 1) := by decide +kernel
theorem dX4_digest_18 : decode cX4_digest 18 = .ok (.ldc2_w 138, 3) := by decide +kernel
theorem dX4_digest_21 : decode cX4_digest 21 = .ok (.lmul, 1) := by decide +kernel
theorem dX4_digest_22 : decode cX4_digest 22 = .ok (.aload_n 0, 1) := by decide +kernel
theorem dX4_digest_23 : decode cX4_digest 23 = .ok (.iload_n 3, 1) := by decide +kernel
theorem dX4_digest_24 : decode cX4_digest 24 = .ok (.invokevirtual 120, 3) := by decide +kernel
theorem dX4_digest_27 : decode cX4_digest 27 = .ok (.i2l, 1) := by decide +kernel
theorem dX4_digest_28 : decode cX4_digest 28 = .ok (.ladd, 1) := by decide +kernel
theorem dX4_digest_29 : decode cX4_digest 29 = .ok (.lstore_n 1, 1) := by decide +kernel
theorem dX4_digest_30 : decode cX4_digest 30 = .ok (.iinc 3 1, 3) := by decide +kernel
theorem dX4_digest_33 : decode cX4_digest 33 = .ok (.goto (-22), 3) := by decide +kernel
theorem dX4_digest_36 : decode cX4_digest 36 = .ok (.aload_n 0, 1) := by decide +kernel
theorem dX4_digest_37 : decode cX4_digest 37 = .ok (.getfield 7, 3) := by decide +kernel
theorem dX4_digest_40 : decode cX4_digest 40 = .ok (.astore_n 3, 1) := by decide +kernel
theorem dX4_digest_41 : decode cX4_digest 41 = .ok (.aload_n 3, 1) := by decide +kernel
theorem dX4_digest_42 : decode cX4_digest 42 = .ok (.arraylength, 1) := by decide +kernel
theorem dX4_digest_43 : decode cX4_digest 43 = .ok (.istore 4, 2) := by decide +kernel
theorem dX4_digest_45 : decode cX4_digest 45 = .ok (.iconst 0, 1) := by decide +kernel
theorem dX4_digest_46 : decode cX4_digest 46 = .ok (.istore 5, 2) := by decide +kernel
theorem dX4_digest_48 : decode cX4_digest 48 = .ok (.iload 5, 2) := by decide +kernel
theorem dX4_digest_50 : decode cX4_digest 50 = .ok (.iload 4, 2) := by decide +kernel
theorem dX4_digest_52 : decode cX4_digest 52 = .ok (.if_icmp .ge 25, 3) := by decide +kernel
theorem dX4_digest_55 : decode cX4_digest 55 = .ok (.aload_n 3, 1) := by decide +kernel
theorem dX4_digest_56 : decode cX4_digest 56 = .ok (.iload 5, 2) := by decide +kernel
theorem dX4_digest_58 : decode cX4_digest 58 = .ok (.iaload, 1) := by decide +kernel
theorem dX4_digest_59 : decode cX4_digest 59 = .ok (.istore 6, 2) := by decide +kernel
theorem dX4_digest_61 : decode cX4_digest 61 = .ok (.lload_n 1, 1) := by decide +kernel
theorem dX4_digest_62 : decode cX4_digest 62 = .ok (.ldc2_w 138, 3) := by decide +kernel
theorem dX4_digest_65 : decode cX4_digest 65 = .ok (.lmul, 1) := by decide +kernel
theorem dX4_digest_66 : decode cX4_digest 66 = .ok (.iload 6, 2) := by decide +kernel
theorem dX4_digest_68 : decode cX4_digest 68 = .ok (.i2l, 1) := by decide +kernel
theorem dX4_digest_69 : decode cX4_digest 69 = .ok (.ladd, 1) := by decide +kernel
theorem dX4_digest_70 : decode cX4_digest 70 = .ok (.lstore_n 1, 1) := by decide +kernel
theorem dX4_digest_71 : decode cX4_digest 71 = .ok (.iinc 5 1, 3) := by decide +kernel
theorem dX4_digest_74 : decode cX4_digest 74 = .ok (.goto (-26), 3) := by decide +kernel
theorem dX4_digest_77 : decode cX4_digest 77 = .ok (.aload_n 0, 1) := by decide +kernel
theorem dX4_digest_78 : decode cX4_digest 78 = .ok (.getfield 13, 3) := by decide +kernel
theorem dX4_digest_81 : decode cX4_digest 81 = .ok (.astore_n 3, 1) := by decide +kernel
theorem dX4_digest_82 : decode cX4_digest 82 = .ok (.aload_n 3, 1) := by decide +kernel
theorem dX4_digest_83 : decode cX4_digest 83 = .ok (.arraylength, 1) := by decide +kernel
theorem dX4_digest_84 : decode cX4_digest 84 = .ok (.istore 4, 2) := by decide +kernel
theorem dX4_digest_86 : decode cX4_digest 86 = .ok (.iconst 0, 1) := by decide +kernel
theorem dX4_digest_87 : decode cX4_digest 87 = .ok (.istore 5, 2) := by decide +kernel
theorem dX4_digest_89 : decode cX4_digest 89 = .ok (.iload 5, 2) := by decide +kernel
theorem dX4_digest_91 : decode cX4_digest 91 = .ok (.iload 4, 2) := by decide +kernel
theorem dX4_digest_93 : decode cX4_digest 93 = .ok (.if_icmp .ge 25, 3) := by decide +kernel
theorem dX4_digest_96 : decode cX4_digest 96 = .ok (.aload_n 3, 1) := by decide +kernel
theorem dX4_digest_97 : decode cX4_digest 97 = .ok (.iload 5, 2) := by decide +kernel
theorem dX4_digest_99 : decode cX4_digest 99 = .ok (.iaload, 1) := by decide +kernel
theorem dX4_digest_100 : decode cX4_digest 100 = .ok (.istore 6, 2) := by decide +kernel
theorem dX4_digest_102 : decode cX4_digest 102 = .ok (.lload_n 1, 1) := by decide +kernel
theorem dX4_digest_103 : decode cX4_digest 103 = .ok (.ldc2_w 138, 3) := by decide +kernel
theorem dX4_digest_106 : decode cX4_digest 106 = .ok (.lmul, 1) := by decide +kernel
theorem dX4_digest_107 : decode cX4_digest 107 = .ok (.iload 6, 2) := by decide +kernel
theorem dX4_digest_109 : decode cX4_digest 109 = .ok (.i2l, 1) := by decide +kernel
theorem dX4_digest_110 : decode cX4_digest 110 = .ok (.ladd, 1) := by decide +kernel
theorem dX4_digest_111 : decode cX4_digest 111 = .ok (.lstore_n 1, 1) := by decide +kernel
theorem dX4_digest_112 : decode cX4_digest 112 = .ok (.iinc 5 1, 3) := by decide +kernel
theorem dX4_digest_115 : decode cX4_digest 115 = .ok (.goto (-26), 3) := by decide +kernel
theorem dX4_digest_118 : decode cX4_digest 118 = .ok (.iconst 0, 1) := by decide +kernel
theorem dX4_digest_119 : decode cX4_digest 119 = .ok (.istore_n 3, 1) := by decide +kernel
theorem dX4_digest_120 : decode cX4_digest 120 = .ok (.iload_n 3, 1) := by decide +kernel
theorem dX4_digest_121 : decode cX4_digest 121 = .ok (.aload_n 0, 1) := by decide +kernel
theorem dX4_digest_122 : decode cX4_digest 122 = .ok (.getfield 36, 3) := by decide +kernel
theorem dX4_digest_125 : decode cX4_digest 125 = .ok (.if_icmp .ge 40, 3) := by decide +kernel
theorem dX4_digest_128 : decode cX4_digest 128 = .ok (.iconst 0, 1) := by decide +kernel
theorem dX4_digest_129 : decode cX4_digest 129 = .ok (.istore 4, 2) := by decide +kernel
theorem dX4_digest_131 : decode cX4_digest 131 = .ok (.iload 4, 2) := by decide +kernel
theorem dX4_digest_133 : decode cX4_digest 133 = .ok (.bipush 9, 2) := by decide +kernel
theorem dX4_digest_135 : decode cX4_digest 135 = .ok (.if_icmp .ge 24, 3) := by decide +kernel
theorem dX4_digest_138 : decode cX4_digest 138 = .ok (.lload_n 1, 1) := by decide +kernel
theorem dX4_digest_139 : decode cX4_digest 139 = .ok (.ldc2_w 138, 3) := by decide +kernel
theorem dX4_digest_142 : decode cX4_digest 142 = .ok (.lmul, 1) := by decide +kernel
theorem dX4_digest_143 : decode cX4_digest 143 = .ok (.aload_n 0, 1) := by decide +kernel
theorem dX4_digest_144 : decode cX4_digest 144 = .ok (.iload_n 3, 1) := by decide +kernel
theorem dX4_digest_145 : decode cX4_digest 145 = .ok (.iload 4, 2) := by decide +kernel
theorem dX4_digest_147 : decode cX4_digest 147 = .ok (.invokevirtual 113, 3) := by decide +kernel
theorem dX4_digest_150 : decode cX4_digest 150 = .ok (.i2l, 1) := by decide +kernel
theorem dX4_digest_151 : decode cX4_digest 151 = .ok (.ladd, 1) := by decide +kernel
theorem dX4_digest_152 : decode cX4_digest 152 = .ok (.lstore_n 1, 1) := by decide +kernel
theorem dX4_digest_153 : decode cX4_digest 153 = .ok (.iinc 4 1, 3) := by decide +kernel
theorem dX4_digest_156 : decode cX4_digest 156 = .ok (.goto (-25), 3) := by decide +kernel
theorem dX4_digest_159 : decode cX4_digest 159 = .ok (.iinc 3 1, 3) := by decide +kernel
theorem dX4_digest_162 : decode cX4_digest 162 = .ok (.goto (-42), 3) := by decide +kernel
theorem dX4_digest_165 : decode cX4_digest 165 = .ok (.lload_n 1, 1) := by decide +kernel
theorem dX4_digest_166 : decode cX4_digest 166 = .ok (.lreturn, 1) := by decide +kernel
theorem dJ9_max_7cf53_0 : decode cJ9_max_7cf53 0 = .ok (.iload_n 0, 1) := by decide +kernel
theorem dJ9_max_7cf53_1 : decode cJ9_max_7cf53 1 = .ok (.iload_n 1, 1) := by decide +kernel
theorem dJ9_max_7cf53_2 : decode cJ9_max_7cf53 2 = .ok (.if_icmp .lt 7, 3) := by decide +kernel
theorem dJ9_max_7cf53_5 : decode cJ9_max_7cf53 5 = .ok (.iload_n 0, 1) := by decide +kernel
theorem dJ9_max_7cf53_6 : decode cJ9_max_7cf53 6 = .ok (.goto 4, 3) := by decide +kernel
theorem dJ9_max_7cf53_9 : decode cJ9_max_7cf53 9 = .ok (.iload_n 1, 1) := by decide +kernel
theorem dJ9_max_7cf53_10 : decode cJ9_max_7cf53 10 = .ok (.ireturn, 1) := by decide +kernel
theorem dJ9_min_f86c9_0 : decode cJ9_min_f86c9 0 = .ok (.lload_n 0, 1) := by decide +kernel
theorem dJ9_min_f86c9_1 : decode cJ9_min_f86c9 1 = .ok (.lload_n 2, 1) := by decide +kernel
theorem dJ9_min_f86c9_2 : decode cJ9_min_f86c9 2 = .ok (.lcmp, 1) := by decide +kernel
theorem dJ9_min_f86c9_3 : decode cJ9_min_f86c9 3 = .ok (.ifCond .gt 7, 3) := by decide +kernel
theorem dJ9_min_f86c9_6 : decode cJ9_min_f86c9 6 = .ok (.lload_n 0, 1) := by decide +kernel
theorem dJ9_min_f86c9_7 : decode cJ9_min_f86c9 7 = .ok (.goto 4, 3) := by decide +kernel
theorem dJ9_min_f86c9_10 : decode cJ9_min_f86c9 10 = .ok (.lload_n 2, 1) := by decide +kernel
theorem dJ9_min_f86c9_11 : decode cJ9_min_f86c9 11 = .ok (.lreturn, 1) := by decide +kernel
set_option maxRecDepth 20000 in
theorem ggL_setDeaths_X3_setDeaths : GoodIn wsL_setDeaths wsX3_setDeaths := goodIn_ca (goodIn_ca (goodIn_r _ [7, 8, 9, 10, 11, 12, 13, 14, 6, 15, 16, 17, 18, 19, 20, 21, 22, 23, 24, 25, 26, 27, 28, 29, 30] (by decide +kernel) (by decide +kernel)) (goodIn_sub (fun _ h => List.mem_cons_of_mem _ (List.mem_append_left _ (List.mem_append_right _ h))) (by decide +kernel))) (goodIn_sub (fun _ h => List.mem_cons_of_mem _ (List.mem_append_right _ h)) (by decide +kernel))
set_option maxRecDepth 20000 in
theorem gL_setDeaths_X3_setDeaths : GoodIn wsL_setDeaths (wsV RL 7 RX3 yX3_setDeaths wsX3_setDeaths) := goodIn_app (goodIn_of _ (by decide +kernel)) ggL_setDeaths_X3_setDeaths
theorem dL_setDeaths_0 : decode cL_setDeaths 0 = .ok (.aload_n 3, 1) := by decide +kernel
theorem dL_setDeaths_1 : decode cL_setDeaths 1 = .ok (.iconst 0, 1) := by decide +kernel
theorem dL_setDeaths_2 : decode cL_setDeaths 2 = .ok (.aload_n 0, 1) := by decide +kernel
theorem dL_setDeaths_3 : decode cL_setDeaths 3 = .ok (.iload_n 1, 1) := by decide +kernel
theorem dL_setDeaths_4 : decode cL_setDeaths 4 = .ok (.iload_n 2, 1) := by decide +kernel
theorem dL_setDeaths_5 : decode cL_setDeaths 5 = .ok (.invokevirtual 7, 3) := by decide +kernel
theorem dL_setDeaths_8 : decode cL_setDeaths 8 = .ok (.i2l, 1) := by decide +kernel
theorem dL_setDeaths_9 : decode cL_setDeaths 9 = .ok (.lastore, 1) := by decide +kernel
theorem dL_setDeaths_10 : decode cL_setDeaths 10 = .ok (.goto 11, 3) := by decide +kernel
theorem dL_setDeaths_13 : decode cL_setDeaths 13 = .ok (.astore 4, 2) := by decide +kernel
theorem dL_setDeaths_15 : decode cL_setDeaths 15 = .ok (.iconst 1, 1) := by decide +kernel
theorem dL_setDeaths_16 : decode cL_setDeaths 16 = .ok (.ireturn, 1) := by decide +kernel
theorem dL_setDeaths_17 : decode cL_setDeaths 17 = .ok (.astore 4, 2) := by decide +kernel
theorem dL_setDeaths_19 : decode cL_setDeaths 19 = .ok (.iconst 2, 1) := by decide +kernel
theorem dL_setDeaths_20 : decode cL_setDeaths 20 = .ok (.ireturn, 1) := by decide +kernel
theorem dL_setDeaths_21 : decode cL_setDeaths 21 = .ok (.iconst 0, 1) := by decide +kernel
theorem dL_setDeaths_22 : decode cL_setDeaths 22 = .ok (.ireturn, 1) := by decide +kernel
set_option maxRecDepth 20000 in
theorem ggL_setRate_X3_setRate : GoodIn wsL_setRate wsX3_setRate := goodIn_ca (goodIn_ca (goodIn_r _ [7, 8, 9, 10, 11, 12, 13, 14, 15, 16, 17, 18, 19, 20, 21, 22, 23, 24, 25, 26, 27] (by decide +kernel) (by decide +kernel)) (goodIn_sub (fun _ h => List.mem_cons_of_mem _ (List.mem_append_left _ (List.mem_append_right _ h))) (by decide +kernel))) (goodIn_sub (fun _ h => List.mem_cons_of_mem _ (List.mem_append_right _ h)) (by decide +kernel))
set_option maxRecDepth 20000 in
theorem gL_setRate_X3_setRate : GoodIn wsL_setRate (wsV RL 17 RX3 yX3_setRate wsX3_setRate) := goodIn_app (goodIn_of _ (by decide +kernel)) ggL_setRate_X3_setRate
theorem dL_setRate_0 : decode cL_setRate 0 = .ok (.aload_n 3, 1) := by decide +kernel
theorem dL_setRate_1 : decode cL_setRate 1 = .ok (.iconst 0, 1) := by decide +kernel
theorem dL_setRate_2 : decode cL_setRate 2 = .ok (.aload_n 0, 1) := by decide +kernel
theorem dL_setRate_3 : decode cL_setRate 3 = .ok (.iload_n 1, 1) := by decide +kernel
theorem dL_setRate_4 : decode cL_setRate 4 = .ok (.iload_n 2, 1) := by decide +kernel
theorem dL_setRate_5 : decode cL_setRate 5 = .ok (.invokevirtual 17, 3) := by decide +kernel
theorem dL_setRate_8 : decode cL_setRate 8 = .ok (.i2l, 1) := by decide +kernel
theorem dL_setRate_9 : decode cL_setRate 9 = .ok (.lastore, 1) := by decide +kernel
theorem dL_setRate_10 : decode cL_setRate 10 = .ok (.goto 11, 3) := by decide +kernel
theorem dL_setRate_13 : decode cL_setRate 13 = .ok (.astore 4, 2) := by decide +kernel
theorem dL_setRate_15 : decode cL_setRate 15 = .ok (.iconst 1, 1) := by decide +kernel
theorem dL_setRate_16 : decode cL_setRate 16 = .ok (.ireturn, 1) := by decide +kernel
theorem dL_setRate_17 : decode cL_setRate 17 = .ok (.astore 4, 2) := by decide +kernel
theorem dL_setRate_19 : decode cL_setRate 19 = .ok (.iconst 2, 1) := by decide +kernel
theorem dL_setRate_20 : decode cL_setRate 20 = .ok (.ireturn, 1) := by decide +kernel
theorem dL_setRate_21 : decode cL_setRate 21 = .ok (.iconst 0, 1) := by decide +kernel
theorem dL_setRate_22 : decode cL_setRate 22 = .ok (.ireturn, 1) := by decide +kernel
set_option maxRecDepth 20000 in
theorem ggL_buy_X3_buy : GoodIn wsL_buy wsX3_buy := goodIn_ca (goodIn_ca (goodIn_r _ [7, 8, 9, 10, 11, 12, 13, 6, 14, 15, 16, 17, 18, 19, 20, 21, 22, 23, 24, 25, 26, 27, 28, 29, 30, 31, 32, 33, 34, 35, 36, 37, 38, 39, 40, 41, 42, 43, 44, 45, 46, 47, 48, 49, 50, 51, 52, 53, 54, 55, 56, 57, 58, 59, 60, 61, 62, 63, 64, 65, 66, 67, 68, 69, 70, 71, 72, 73, 74, 75, 76, 77, 78, 79, 80, 81, 82, 83, 84, 85, 86, 87, 88, 89, 90, 91, 92, 93, 94, 95, 96, 97] (by decide +kernel) (by decide +kernel)) (goodIn_sub (fun _ h => List.mem_cons_of_mem _ (List.mem_append_left _ (List.mem_append_right _ h))) (by decide +kernel))) (goodIn_sub (fun _ h => List.mem_cons_of_mem _ (List.mem_append_right _ h)) (by decide +kernel))
set_option maxRecDepth 20000 in
theorem gL_buy_X3_buy : GoodIn wsL_buy (wsV RL 20 RX3 yX3_buy wsX3_buy) := goodIn_app (goodIn_of _ (by decide +kernel)) ggL_buy_X3_buy
theorem dL_buy_0 : decode cL_buy 0 = .ok (.aload 4, 2) := by decide +kernel
theorem dL_buy_2 : decode cL_buy 2 = .ok (.iconst 0, 1) := by decide +kernel
theorem dL_buy_3 : decode cL_buy 3 = .ok (.aload_n 0, 1) := by decide +kernel
theorem dL_buy_4 : decode cL_buy 4 = .ok (.iload_n 1, 1) := by decide +kernel
theorem dL_buy_5 : decode cL_buy 5 = .ok (.iload_n 2, 1) := by decide +kernel
theorem dL_buy_6 : decode cL_buy 6 = .ok (.iload_n 3, 1) := by decide +kernel
theorem dL_buy_7 : decode cL_buy 7 = .ok (.invokevirtual 20, 3) := by decide +kernel
theorem dL_buy_10 : decode cL_buy 10 = .ok (.i2l, 1) := by decide +kernel
theorem dL_buy_11 : decode cL_buy 11 = .ok (.lastore, 1) := by decide +kernel
theorem dL_buy_12 : decode cL_buy 12 = .ok (.goto 11, 3) := by decide +kernel
theorem dL_buy_15 : decode cL_buy 15 = .ok (.astore 5, 2) := by decide +kernel
theorem dL_buy_17 : decode cL_buy 17 = .ok (.iconst 1, 1) := by decide +kernel
theorem dL_buy_18 : decode cL_buy 18 = .ok (.ireturn, 1) := by decide +kernel
theorem dL_buy_19 : decode cL_buy 19 = .ok (.astore 5, 2) := by decide +kernel
theorem dL_buy_21 : decode cL_buy 21 = .ok (.iconst 2, 1) := by decide +kernel
theorem dL_buy_22 : decode cL_buy 22 = .ok (.ireturn, 1) := by decide +kernel
theorem dL_buy_23 : decode cL_buy 23 = .ok (.iconst 0, 1) := by decide +kernel
theorem dL_buy_24 : decode cL_buy 24 = .ok (.ireturn, 1) := by decide +kernel
set_option maxRecDepth 20000 in
theorem ggL_die_X3_die : GoodIn wsL_die wsX3_die := goodIn_ca (goodIn_ca (goodIn_r _ [7, 8, 9, 10, 11, 12, 13, 14, 15, 6, 16, 17, 18, 19, 20, 21, 22, 23, 24, 25, 26, 27, 28, 29, 30, 31, 32, 33, 34, 35, 36, 37, 38, 39, 40, 41, 42, 43, 44, 45, 46, 47, 48, 49, 50, 51, 52, 53, 54, 55, 56, 57, 58, 59, 60, 61, 62, 63, 64, 65, 66, 67, 68, 69, 70, 71, 72, 73, 74, 75] (by decide +kernel) (by decide +kernel)) (goodIn_sub (fun _ h => List.mem_cons_of_mem _ (List.mem_append_left _ (List.mem_append_right _ h))) (by decide +kernel))) (goodIn_sub (fun _ h => List.mem_cons_of_mem _ (List.mem_append_right _ h)) (by decide +kernel))
set_option maxRecDepth 20000 in
theorem gL_die_X3_die : GoodIn wsL_die (wsV RL 26 RX3 yX3_die wsX3_die) := goodIn_app (goodIn_of _ (by decide +kernel)) ggL_die_X3_die
theorem dL_die_0 : decode cL_die 0 = .ok (.aload_n 2, 1) := by decide +kernel
theorem dL_die_1 : decode cL_die 1 = .ok (.iconst 0, 1) := by decide +kernel
theorem dL_die_2 : decode cL_die 2 = .ok (.aload_n 0, 1) := by decide +kernel
theorem dL_die_3 : decode cL_die 3 = .ok (.iload_n 1, 1) := by decide +kernel
theorem dL_die_4 : decode cL_die 4 = .ok (.invokevirtual 26, 3) := by decide +kernel
theorem dL_die_7 : decode cL_die 7 = .ok (.i2l, 1) := by decide +kernel
theorem dL_die_8 : decode cL_die 8 = .ok (.lastore, 1) := by decide +kernel
theorem dL_die_9 : decode cL_die 9 = .ok (.goto 9, 3) := by decide +kernel
theorem dL_die_12 : decode cL_die 12 = .ok (.astore_n 3, 1) := by decide +kernel
theorem dL_die_13 : decode cL_die 13 = .ok (.iconst 1, 1) := by decide +kernel
theorem dL_die_14 : decode cL_die 14 = .ok (.ireturn, 1) := by decide +kernel
theorem dL_die_15 : decode cL_die 15 = .ok (.astore_n 3, 1) := by decide +kernel
theorem dL_die_16 : decode cL_die 16 = .ok (.iconst 2, 1) := by decide +kernel
theorem dL_die_17 : decode cL_die 17 = .ok (.ireturn, 1) := by decide +kernel
theorem dL_die_18 : decode cL_die 18 = .ok (.iconst 0, 1) := by decide +kernel
theorem dL_die_19 : decode cL_die 19 = .ok (.ireturn, 1) := by decide +kernel
set_option maxRecDepth 20000 in
theorem ggL_giveUp_X3_giveUp : GoodIn wsL_giveUp wsX3_giveUp := goodIn_ca (goodIn_ca (goodIn_r _ [7, 8, 9, 10, 11, 12, 13, 14, 15, 16, 6, 17, 18, 19, 20, 21, 22, 23, 24, 25, 26, 27, 28, 29, 30, 31, 32, 33, 34, 35, 36, 37, 38, 39, 40, 41, 42, 43, 44, 45, 46, 47, 48, 49, 50, 51, 52, 53, 54, 55, 56, 57, 58, 59, 60, 61, 62, 63, 64, 65, 66, 67, 68, 69, 70, 71, 72, 73, 74, 75, 76, 77, 78, 79, 80, 81, 82, 83, 84, 85, 86, 87, 88, 89, 90, 91, 92] (by decide +kernel) (by decide +kernel)) (goodIn_sub (fun _ h => List.mem_cons_of_mem _ (List.mem_append_left _ (List.mem_append_right _ h))) (by decide +kernel))) (goodIn_sub (fun _ h => List.mem_cons_of_mem _ (List.mem_append_right _ h)) (by decide +kernel))
set_option maxRecDepth 20000 in
theorem gL_giveUp_X3_giveUp : GoodIn wsL_giveUp (wsV RL 30 RX3 yX3_giveUp wsX3_giveUp) := goodIn_app (goodIn_of _ (by decide +kernel)) ggL_giveUp_X3_giveUp
theorem dL_giveUp_0 : decode cL_giveUp 0 = .ok (.aload_n 2, 1) := by decide +kernel
theorem dL_giveUp_1 : decode cL_giveUp 1 = .ok (.iconst 0, 1) := by decide +kernel
theorem dL_giveUp_2 : decode cL_giveUp 2 = .ok (.aload_n 0, 1) := by decide +kernel
theorem dL_giveUp_3 : decode cL_giveUp 3 = .ok (.iload_n 1, 1) := by decide +kernel
theorem dL_giveUp_4 : decode cL_giveUp 4 = .ok (.invokevirtual 30, 3) := by decide +kernel
theorem dL_giveUp_7 : decode cL_giveUp 7 = .ok (.i2l, 1) := by decide +kernel
theorem dL_giveUp_8 : decode cL_giveUp 8 = .ok (.lastore, 1) := by decide +kernel
theorem dL_giveUp_9 : decode cL_giveUp 9 = .ok (.goto 9, 3) := by decide +kernel
theorem dL_giveUp_12 : decode cL_giveUp 12 = .ok (.astore_n 3, 1) := by decide +kernel
theorem dL_giveUp_13 : decode cL_giveUp 13 = .ok (.iconst 1, 1) := by decide +kernel
theorem dL_giveUp_14 : decode cL_giveUp 14 = .ok (.ireturn, 1) := by decide +kernel
theorem dL_giveUp_15 : decode cL_giveUp 15 = .ok (.astore_n 3, 1) := by decide +kernel
theorem dL_giveUp_16 : decode cL_giveUp 16 = .ok (.iconst 2, 1) := by decide +kernel
theorem dL_giveUp_17 : decode cL_giveUp 17 = .ok (.ireturn, 1) := by decide +kernel
theorem dL_giveUp_18 : decode cL_giveUp 18 = .ok (.iconst 0, 1) := by decide +kernel
theorem dL_giveUp_19 : decode cL_giveUp 19 = .ok (.ireturn, 1) := by decide +kernel
set_option maxRecDepth 20000 in
theorem ggL_put_X3_put : GoodIn wsL_put wsX3_put := goodIn_ca (goodIn_r _ [6, 7, 8, 9, 10, 11, 12, 13, 14, 15, 16, 17, 18, 19, 20, 21, 22, 23, 24, 25, 26, 27, 28, 29] (by decide +kernel) (by decide +kernel)) (goodIn_sub (fun _ h => List.mem_cons_of_mem _ (List.mem_append_right _ h)) (by decide +kernel))
set_option maxRecDepth 20000 in
theorem gL_put_X3_put : GoodIn wsL_put (wsV RL 33 RX3 yX3_put wsX3_put) := goodIn_app (goodIn_of _ (by decide +kernel)) ggL_put_X3_put
theorem dL_put_0 : decode cL_put 0 = .ok (.aload_n 2, 1) := by decide +kernel
theorem dL_put_1 : decode cL_put 1 = .ok (.iconst 0, 1) := by decide +kernel
theorem dL_put_2 : decode cL_put 2 = .ok (.aload_n 0, 1) := by decide +kernel
theorem dL_put_3 : decode cL_put 3 = .ok (.iload_n 1, 1) := by decide +kernel
theorem dL_put_4 : decode cL_put 4 = .ok (.invokevirtual 33, 3) := by decide +kernel
theorem dL_put_7 : decode cL_put 7 = .ok (.i2l, 1) := by decide +kernel
theorem dL_put_8 : decode cL_put 8 = .ok (.lastore, 1) := by decide +kernel
theorem dL_put_9 : decode cL_put 9 = .ok (.goto 6, 3) := by decide +kernel
theorem dL_put_12 : decode cL_put 12 = .ok (.astore_n 3, 1) := by decide +kernel
theorem dL_put_13 : decode cL_put 13 = .ok (.iconst 1, 1) := by decide +kernel
theorem dL_put_14 : decode cL_put 14 = .ok (.ireturn, 1) := by decide +kernel
theorem dL_put_15 : decode cL_put 15 = .ok (.iconst 0, 1) := by decide +kernel
theorem dL_put_16 : decode cL_put 16 = .ok (.ireturn, 1) := by decide +kernel
set_option maxRecDepth 20000 in
theorem ggL_worth_X3_worth : GoodIn wsL_worth wsX3_worth := goodIn_ca (goodIn_r _ [6, 7, 8, 9, 5, 10, 11, 12, 13, 14, 15, 16, 17, 18, 19, 20, 21, 22, 23, 24, 25, 26, 27, 28, 29, 30, 31, 32, 33, 34, 35, 36, 37, 38] (by decide +kernel) (by decide +kernel)) (goodIn_sub (fun _ h => List.mem_cons_of_mem _ (List.mem_append_right _ h)) (by decide +kernel))
set_option maxRecDepth 20000 in
theorem gL_worth_X3_worth : GoodIn wsL_worth (wsV RL 36 RX3 yX3_worth wsX3_worth) := goodIn_app (goodIn_of _ (by decide +kernel)) ggL_worth_X3_worth
theorem dL_worth_0 : decode cL_worth 0 = .ok (.aload_n 3, 1) := by decide +kernel
theorem dL_worth_1 : decode cL_worth 1 = .ok (.iconst 0, 1) := by decide +kernel
theorem dL_worth_2 : decode cL_worth 2 = .ok (.aload_n 0, 1) := by decide +kernel
theorem dL_worth_3 : decode cL_worth 3 = .ok (.iload_n 1, 1) := by decide +kernel
theorem dL_worth_4 : decode cL_worth 4 = .ok (.iload_n 2, 1) := by decide +kernel
theorem dL_worth_5 : decode cL_worth 5 = .ok (.invokevirtual 36, 3) := by decide +kernel
theorem dL_worth_8 : decode cL_worth 8 = .ok (.i2l, 1) := by decide +kernel
theorem dL_worth_9 : decode cL_worth 9 = .ok (.lastore, 1) := by decide +kernel
theorem dL_worth_10 : decode cL_worth 10 = .ok (.goto 7, 3) := by decide +kernel
theorem dL_worth_13 : decode cL_worth 13 = .ok (.astore 4, 2) := by decide +kernel
theorem dL_worth_15 : decode cL_worth 15 = .ok (.iconst 1, 1) := by decide +kernel
theorem dL_worth_16 : decode cL_worth 16 = .ok (.ireturn, 1) := by decide +kernel
theorem dL_worth_17 : decode cL_worth 17 = .ok (.iconst 0, 1) := by decide +kernel
theorem dL_worth_18 : decode cL_worth 18 = .ok (.ireturn, 1) := by decide +kernel
set_option maxRecDepth 20000 in
theorem ggL_price_X3_price : GoodIn wsL_price wsX3_price := goodIn_ca (goodIn_r _ [6, 7, 8, 9, 5, 10, 11, 12, 13, 14, 15, 16, 17, 18, 19, 20, 21, 22, 23, 24, 25, 26, 27, 28, 29, 30, 31, 32, 33, 34, 35, 36, 37, 38, 39, 40, 41, 42, 43, 44, 45] (by decide +kernel) (by decide +kernel)) (goodIn_sub (fun _ h => List.mem_cons_of_mem _ (List.mem_append_right _ h)) (by decide +kernel))
set_option maxRecDepth 20000 in
theorem gL_price_X3_price : GoodIn wsL_price (wsV RL 39 RX3 yX3_price wsX3_price) := goodIn_app (goodIn_of _ (by decide +kernel)) ggL_price_X3_price
theorem dL_price_0 : decode cL_price 0 = .ok (.aload 4, 2) := by decide +kernel
theorem dL_price_2 : decode cL_price 2 = .ok (.iconst 0, 1) := by decide +kernel
theorem dL_price_3 : decode cL_price 3 = .ok (.aload_n 0, 1) := by decide +kernel
theorem dL_price_4 : decode cL_price 4 = .ok (.iload_n 1, 1) := by decide +kernel
theorem dL_price_5 : decode cL_price 5 = .ok (.iload_n 2, 1) := by decide +kernel
theorem dL_price_6 : decode cL_price 6 = .ok (.iload_n 3, 1) := by decide +kernel
theorem dL_price_7 : decode cL_price 7 = .ok (.invokevirtual 39, 3) := by decide +kernel
theorem dL_price_10 : decode cL_price 10 = .ok (.i2l, 1) := by decide +kernel
theorem dL_price_11 : decode cL_price 11 = .ok (.lastore, 1) := by decide +kernel
theorem dL_price_12 : decode cL_price 12 = .ok (.goto 7, 3) := by decide +kernel
theorem dL_price_15 : decode cL_price 15 = .ok (.astore 5, 2) := by decide +kernel
theorem dL_price_17 : decode cL_price 17 = .ok (.iconst 1, 1) := by decide +kernel
theorem dL_price_18 : decode cL_price 18 = .ok (.ireturn, 1) := by decide +kernel
theorem dL_price_19 : decode cL_price 19 = .ok (.iconst 0, 1) := by decide +kernel
theorem dL_price_20 : decode cL_price 20 = .ok (.ireturn, 1) := by decide +kernel
set_option maxRecDepth 20000 in
theorem ggL_told_X3_told : GoodIn wsL_told wsX3_told := goodIn_ca (goodIn_r _ [6, 7, 8, 9, 10, 11, 12, 13, 5, 14, 15, 16, 17, 18, 19, 20, 21, 22, 23, 24, 25, 26, 27, 28, 29, 30, 31, 32, 33, 34, 35, 36, 37, 38, 39, 40, 41, 42, 43, 44, 45, 46, 47, 48, 49, 50, 51, 52, 53, 54, 55, 56, 57, 58, 59, 60, 61, 62, 63, 64, 65, 66, 67, 68, 69, 70, 71, 72, 73, 74, 75, 76, 77, 78, 79, 80, 81, 82, 83, 84, 85, 86, 87, 88] (by decide +kernel) (by decide +kernel)) (goodIn_sub (fun _ h => List.mem_cons_of_mem _ (List.mem_append_right _ h)) (by decide +kernel))
set_option maxRecDepth 20000 in
theorem gL_told_X3_told : GoodIn wsL_told (wsV RL 42 RX3 yX3_told wsX3_told) := goodIn_app (goodIn_of _ (by decide +kernel)) ggL_told_X3_told
theorem dL_told_0 : decode cL_told 0 = .ok (.aload_n 3, 1) := by decide +kernel
theorem dL_told_1 : decode cL_told 1 = .ok (.iconst 0, 1) := by decide +kernel
theorem dL_told_2 : decode cL_told 2 = .ok (.aload_n 0, 1) := by decide +kernel
theorem dL_told_3 : decode cL_told 3 = .ok (.iload_n 1, 1) := by decide +kernel
theorem dL_told_4 : decode cL_told 4 = .ok (.iload_n 2, 1) := by decide +kernel
theorem dL_told_5 : decode cL_told 5 = .ok (.invokevirtual 42, 3) := by decide +kernel
theorem dL_told_8 : decode cL_told 8 = .ok (.i2l, 1) := by decide +kernel
theorem dL_told_9 : decode cL_told 9 = .ok (.lastore, 1) := by decide +kernel
theorem dL_told_10 : decode cL_told 10 = .ok (.goto 7, 3) := by decide +kernel
theorem dL_told_13 : decode cL_told 13 = .ok (.astore 4, 2) := by decide +kernel
theorem dL_told_15 : decode cL_told 15 = .ok (.iconst 1, 1) := by decide +kernel
theorem dL_told_16 : decode cL_told 16 = .ok (.ireturn, 1) := by decide +kernel
theorem dL_told_17 : decode cL_told 17 = .ok (.iconst 0, 1) := by decide +kernel
theorem dL_told_18 : decode cL_told 18 = .ok (.ireturn, 1) := by decide +kernel
set_option maxRecDepth 20000 in
theorem ggL_count_X3_count : GoodIn wsL_count wsX3_count := goodIn_ca (goodIn_r _ [6, 7, 8, 9, 10, 11, 12, 13, 14, 15, 16, 17, 18, 19, 20, 21, 22, 23, 24, 25, 26, 27, 28, 29, 30, 31, 32, 33, 34, 35, 36, 37, 38, 39, 40, 41, 42, 43, 44, 45, 46, 47, 48, 49, 50, 51, 52, 53, 54, 55, 56, 57, 58, 59, 60, 61, 62, 63, 5, 64, 65, 66, 67, 68, 69, 70, 71, 72, 73, 74, 75, 76, 77, 78, 79, 80, 81, 82, 83, 84, 85, 86, 87, 88, 89] (by decide +kernel) (by decide +kernel)) (goodIn_sub (fun _ h => List.mem_cons_of_mem _ (List.mem_append_right _ h)) (by decide +kernel))
set_option maxRecDepth 20000 in
theorem gL_count_X3_count : GoodIn wsL_count (wsV RL 45 RX3 yX3_count wsX3_count) := goodIn_app (goodIn_of _ (by decide +kernel)) ggL_count_X3_count
theorem dL_count_0 : decode cL_count 0 = .ok (.aload_n 2, 1) := by decide +kernel
theorem dL_count_1 : decode cL_count 1 = .ok (.iconst 0, 1) := by decide +kernel
theorem dL_count_2 : decode cL_count 2 = .ok (.aload_n 0, 1) := by decide +kernel
theorem dL_count_3 : decode cL_count 3 = .ok (.iload_n 1, 1) := by decide +kernel
theorem dL_count_4 : decode cL_count 4 = .ok (.invokevirtual 45, 3) := by decide +kernel
theorem dL_count_7 : decode cL_count 7 = .ok (.i2l, 1) := by decide +kernel
theorem dL_count_8 : decode cL_count 8 = .ok (.lastore, 1) := by decide +kernel
theorem dL_count_9 : decode cL_count 9 = .ok (.goto 6, 3) := by decide +kernel
theorem dL_count_12 : decode cL_count 12 = .ok (.astore_n 3, 1) := by decide +kernel
theorem dL_count_13 : decode cL_count 13 = .ok (.iconst 1, 1) := by decide +kernel
theorem dL_count_14 : decode cL_count 14 = .ok (.ireturn, 1) := by decide +kernel
theorem dL_count_15 : decode cL_count 15 = .ok (.iconst 0, 1) := by decide +kernel
theorem dL_count_16 : decode cL_count 16 = .ok (.ireturn, 1) := by decide +kernel
set_option maxRecDepth 20000 in
theorem ggL_alive_X3_alive : GoodIn wsL_alive wsX3_alive := goodIn_ca (goodIn_r _ [6, 7, 8, 9, 10, 11, 5, 12, 13, 14, 15, 16, 17, 18, 19, 20, 21, 22, 23, 24, 25, 26, 27, 28, 29, 30] (by decide +kernel) (by decide +kernel)) (goodIn_sub (fun _ h => List.mem_cons_of_mem _ (List.mem_append_right _ h)) (by decide +kernel))
set_option maxRecDepth 20000 in
theorem gL_alive_X3_alive : GoodIn wsL_alive (wsV RL 48 RX3 yX3_alive wsX3_alive) := goodIn_app (goodIn_of _ (by decide +kernel)) ggL_alive_X3_alive
theorem dL_alive_0 : decode cL_alive 0 = .ok (.aload_n 3, 1) := by decide +kernel
theorem dL_alive_1 : decode cL_alive 1 = .ok (.iconst 0, 1) := by decide +kernel
theorem dL_alive_2 : decode cL_alive 2 = .ok (.aload_n 0, 1) := by decide +kernel
theorem dL_alive_3 : decode cL_alive 3 = .ok (.iload_n 1, 1) := by decide +kernel
theorem dL_alive_4 : decode cL_alive 4 = .ok (.iload_n 2, 1) := by decide +kernel
theorem dL_alive_5 : decode cL_alive 5 = .ok (.invokevirtual 48, 3) := by decide +kernel
theorem dL_alive_8 : decode cL_alive 8 = .ok (.i2l, 1) := by decide +kernel
theorem dL_alive_9 : decode cL_alive 9 = .ok (.lastore, 1) := by decide +kernel
theorem dL_alive_10 : decode cL_alive 10 = .ok (.goto 7, 3) := by decide +kernel
theorem dL_alive_13 : decode cL_alive 13 = .ok (.astore 4, 2) := by decide +kernel
theorem dL_alive_15 : decode cL_alive 15 = .ok (.iconst 1, 1) := by decide +kernel
theorem dL_alive_16 : decode cL_alive 16 = .ok (.ireturn, 1) := by decide +kernel
theorem dL_alive_17 : decode cL_alive 17 = .ok (.iconst 0, 1) := by decide +kernel
theorem dL_alive_18 : decode cL_alive 18 = .ok (.ireturn, 1) := by decide +kernel
set_option maxRecDepth 20000 in
theorem ggL_pass_X3_pass : GoodIn wsL_pass wsX3_pass := goodIn_ca (goodIn_r _ [6, 7, 8, 9, 10, 5, 11, 12, 13, 14, 15, 16, 17, 18, 19, 20, 21, 22, 23, 24, 25, 26, 27, 28, 29, 30, 31, 32, 33, 34, 35, 36, 37, 38, 39, 40, 41, 42, 43, 44, 45, 46, 47, 48, 49, 50, 51, 52, 53, 54, 55, 56, 57, 58, 59, 60, 61, 62, 63, 64, 65, 66, 67, 68, 69, 70, 71, 72, 73, 74, 75, 76, 77, 78, 79, 80, 81, 82] (by decide +kernel) (by decide +kernel)) (goodIn_sub (fun _ h => List.mem_cons_of_mem _ (List.mem_append_right _ h)) (by decide +kernel))
set_option maxRecDepth 20000 in
theorem gL_pass_X3_pass : GoodIn wsL_pass (wsV RL 51 RX3 yX3_pass wsX3_pass) := goodIn_app (goodIn_of _ (by decide +kernel)) ggL_pass_X3_pass
theorem dL_pass_0 : decode cL_pass 0 = .ok (.aload_n 2, 1) := by decide +kernel
theorem dL_pass_1 : decode cL_pass 1 = .ok (.iconst 0, 1) := by decide +kernel
theorem dL_pass_2 : decode cL_pass 2 = .ok (.aload_n 0, 1) := by decide +kernel
theorem dL_pass_3 : decode cL_pass 3 = .ok (.iload_n 1, 1) := by decide +kernel
theorem dL_pass_4 : decode cL_pass 4 = .ok (.invokevirtual 51, 3) := by decide +kernel
theorem dL_pass_7 : decode cL_pass 7 = .ok (.i2l, 1) := by decide +kernel
theorem dL_pass_8 : decode cL_pass 8 = .ok (.lastore, 1) := by decide +kernel
theorem dL_pass_9 : decode cL_pass 9 = .ok (.goto 6, 3) := by decide +kernel
theorem dL_pass_12 : decode cL_pass 12 = .ok (.astore_n 3, 1) := by decide +kernel
theorem dL_pass_13 : decode cL_pass 13 = .ok (.iconst 1, 1) := by decide +kernel
theorem dL_pass_14 : decode cL_pass 14 = .ok (.ireturn, 1) := by decide +kernel
theorem dL_pass_15 : decode cL_pass 15 = .ok (.iconst 0, 1) := by decide +kernel
theorem dL_pass_16 : decode cL_pass 16 = .ok (.ireturn, 1) := by decide +kernel
set_option maxRecDepth 20000 in
theorem ggL_foresee_X3_foresee : GoodIn wsL_foresee wsX3_foresee := goodIn_ca (goodIn_ca (goodIn_r _ [7, 8, 9, 10, 11, 12, 13, 6, 14, 15, 16, 17, 18, 19, 20, 21, 22, 23, 24, 25, 26, 27, 28, 29, 30, 31, 32, 33, 34, 35, 36, 37, 38, 39, 40, 41, 42, 43, 44, 45, 46, 47, 48, 49, 50, 51, 52, 53, 54, 55, 56, 57, 58, 59, 60, 61, 62, 63, 64, 65, 66, 67, 68, 69, 70, 71, 72, 73, 74, 75, 76, 77, 78, 79, 80, 81, 82, 83, 84, 85, 86, 87, 88, 89, 90, 91, 92, 93, 94, 95, 96, 97, 98, 99, 100, 101, 102, 103, 104, 105, 106, 107, 108, 109, 110, 111, 112, 113, 114, 115, 116, 117, 118, 119, 120, 121, 122, 123, 124, 125, 126, 127, 128, 129, 130, 131, 132] (by decide +kernel) (by decide +kernel)) (goodIn_sub (fun _ h => List.mem_cons_of_mem _ (List.mem_append_left _ (List.mem_append_right _ h))) (by decide +kernel))) (goodIn_sub (fun _ h => List.mem_cons_of_mem _ (List.mem_append_right _ h)) (by decide +kernel))
set_option maxRecDepth 20000 in
theorem gL_foresee_X3_foresee : GoodIn wsL_foresee (wsV RL 54 RX3 yX3_foresee wsX3_foresee) := goodIn_app (goodIn_of _ (by decide +kernel)) ggL_foresee_X3_foresee
theorem dL_foresee_0 : decode cL_foresee 0 = .ok (.aload_n 3, 1) := by decide +kernel
theorem dL_foresee_1 : decode cL_foresee 1 = .ok (.iconst 0, 1) := by decide +kernel
theorem dL_foresee_2 : decode cL_foresee 2 = .ok (.aload_n 0, 1) := by decide +kernel
theorem dL_foresee_3 : decode cL_foresee 3 = .ok (.iload_n 1, 1) := by decide +kernel
theorem dL_foresee_4 : decode cL_foresee 4 = .ok (.iload_n 2, 1) := by decide +kernel
theorem dL_foresee_5 : decode cL_foresee 5 = .ok (.invokevirtual 54, 3) := by decide +kernel
theorem dL_foresee_8 : decode cL_foresee 8 = .ok (.i2l, 1) := by decide +kernel
theorem dL_foresee_9 : decode cL_foresee 9 = .ok (.lastore, 1) := by decide +kernel
theorem dL_foresee_10 : decode cL_foresee 10 = .ok (.goto 11, 3) := by decide +kernel
theorem dL_foresee_13 : decode cL_foresee 13 = .ok (.astore 4, 2) := by decide +kernel
theorem dL_foresee_15 : decode cL_foresee 15 = .ok (.iconst 1, 1) := by decide +kernel
theorem dL_foresee_16 : decode cL_foresee 16 = .ok (.ireturn, 1) := by decide +kernel
theorem dL_foresee_17 : decode cL_foresee 17 = .ok (.astore 4, 2) := by decide +kernel
theorem dL_foresee_19 : decode cL_foresee 19 = .ok (.iconst 2, 1) := by decide +kernel
theorem dL_foresee_20 : decode cL_foresee 20 = .ok (.ireturn, 1) := by decide +kernel
theorem dL_foresee_21 : decode cL_foresee 21 = .ok (.iconst 0, 1) := by decide +kernel
theorem dL_foresee_22 : decode cL_foresee 22 = .ok (.ireturn, 1) := by decide +kernel
set_option maxRecDepth 20000 in
theorem ggL_affords_X3_affords : GoodIn wsL_affords wsX3_affords := goodIn_ca (goodIn_r _ [6, 7, 8, 9, 10, 11, 12, 5, 13, 14, 15, 16, 17, 18, 19, 20, 21, 22, 23, 24, 25, 26, 27, 28, 29, 30, 31, 32, 33, 34, 35, 36, 37, 38, 39, 40, 41, 42, 43, 44, 45, 46, 47] (by decide +kernel) (by decide +kernel)) (goodIn_sub (fun _ h => List.mem_cons_of_mem _ (List.mem_append_right _ h)) (by decide +kernel))
set_option maxRecDepth 20000 in
theorem gL_affords_X3_affords : GoodIn wsL_affords (wsV RL 57 RX3 yX3_affords wsX3_affords) := goodIn_app (goodIn_of _ (by decide +kernel)) ggL_affords_X3_affords
theorem dL_affords_0 : decode cL_affords 0 = .ok (.aload 4, 2) := by decide +kernel
theorem dL_affords_2 : decode cL_affords 2 = .ok (.iconst 0, 1) := by decide +kernel
theorem dL_affords_3 : decode cL_affords 3 = .ok (.aload_n 0, 1) := by decide +kernel
theorem dL_affords_4 : decode cL_affords 4 = .ok (.iload_n 1, 1) := by decide +kernel
theorem dL_affords_5 : decode cL_affords 5 = .ok (.iload_n 2, 1) := by decide +kernel
theorem dL_affords_6 : decode cL_affords 6 = .ok (.iload_n 3, 1) := by decide +kernel
theorem dL_affords_7 : decode cL_affords 7 = .ok (.invokevirtual 57, 3) := by decide +kernel
theorem dL_affords_10 : decode cL_affords 10 = .ok (.i2l, 1) := by decide +kernel
theorem dL_affords_11 : decode cL_affords 11 = .ok (.lastore, 1) := by decide +kernel
theorem dL_affords_12 : decode cL_affords 12 = .ok (.goto 7, 3) := by decide +kernel
theorem dL_affords_15 : decode cL_affords 15 = .ok (.astore 5, 2) := by decide +kernel
theorem dL_affords_17 : decode cL_affords 17 = .ok (.iconst 1, 1) := by decide +kernel
theorem dL_affords_18 : decode cL_affords 18 = .ok (.ireturn, 1) := by decide +kernel
theorem dL_affords_19 : decode cL_affords 19 = .ok (.iconst 0, 1) := by decide +kernel
theorem dL_affords_20 : decode cL_affords 20 = .ok (.ireturn, 1) := by decide +kernel
set_option maxRecDepth 20000 in
theorem ggL_law_X3_init : GoodIn wsL_law wsX3_init := goodIn_r _ [9, 10, 11, 12, 13, 14, 15, 16, 17, 18, 19, 20, 21, 22, 23, 24, 25, 26, 27, 28, 29, 30, 31, 32, 33, 34, 35, 36, 37, 38, 39, 40, 558, 559, 548, 549, 550, 560, 561, 562, 563, 564, 565, 566, 567, 568, 569, 570, 571, 572, 573] (by decide +kernel) (by decide +kernel)
set_option maxRecDepth 20000 in
theorem gL_law_X3_init : GoodIn wsL_law (wsX3_init) := ggL_law_X3_init
set_option maxRecDepth 20000 in
theorem ggL_law_X4_init : GoodIn wsL_law wsX4_init := goodIn_r _ [43, 44, 11, 12, 26, 45, 46, 47, 48, 49, 50, 51, 52, 5, 53, 551, 552, 553, 554, 555, 556, 557] (by decide +kernel) (by decide +kernel)
set_option maxRecDepth 20000 in
theorem gL_law_X4_init : GoodIn wsL_law (wsX4_init) := ggL_law_X4_init

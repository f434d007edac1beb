set_option maxRecDepth 20000 in
theorem gX0_tell_X1_rate : GoodIn wsX0_tell (wsV RX0 58 RX1 yX1_rate wsX1_rate) := goodIn_app (goodIn_of _ (by decide +kernel)) ggX0_tell_X1_rate
set_option maxRecDepth 20000 in
theorem ggX0_tell_X0_keptForAll : GoodIn wsX0_tell wsX0_keptForAll := goodIn_r _ [32, 2, 4, 12, 13, 14, 10, 15, 16, 33, 34, 35, 26, 36, 37, 38, 39, 40, 18, 19, 20, 21, 22, 41, 42, 43, 44, 45, 46, 47, 48, 49, 50, 51, 52, 59, 60, 61, 62, 63, 64, 65, 66, 67, 68, 69, 70, 71, 72, 73, 74] (by decide +kernel) (by decide +kernel)
set_option maxRecDepth 20000 in
theorem gX0_tell_X0_keptForAll : GoodIn wsX0_tell (wsV RX0 80 RX0 yX0_keptForAll wsX0_keptForAll) := goodIn_app (goodIn_of _ (by decide +kernel)) ggX0_tell_X0_keptForAll
set_option maxRecDepth 20000 in
theorem ggX0_tell_X0_sumsDue : GoodIn wsX0_tell wsX0_sumsDue := goodIn_r _ [56, 2, 57, 58, 12, 13, 14, 10, 15, 16, 17, 18, 19, 20, 21, 22, 59, 60, 61, 62, 63, 64, 65, 66, 67, 68, 69, 70, 71, 72] (by decide +kernel) (by decide +kernel)
set_option maxRecDepth 20000 in
theorem gX0_tell_X0_sumsDue : GoodIn wsX0_tell (wsV RX0 83 RX0 yX0_sumsDue wsX0_sumsDue) := goodIn_app (goodIn_of _ (by decide +kernel)) ggX0_tell_X0_sumsDue
theorem dX0_tell_0 : decode cX0_tell 0 = .ok (.iload_n 1, 1) := by decide +kernel
theorem dX0_tell_1 : decode cX0_tell 1 = .ok (.tableswitch 108 0 7 #[47, 52, 57, 62, 67, 80, 98, 103], 47) := by decide +kernel
theorem dX0_tell_48 : decode cX0_tell 48 = .ok (.aload_n 0, 1) := by decide +kernel
theorem dX0_tell_49 : decode cX0_tell 49 = .ok (.getfield 48, 3) := by decide +kernel
theorem dX0_tell_52 : decode cX0_tell 52 = .ok (.ireturn, 1) := by decide +kernel
theorem dX0_tell_53 : decode cX0_tell 53 = .ok (.aload_n 0, 1) := by decide +kernel
theorem dX0_tell_54 : decode cX0_tell 54 = .ok (.getfield 22, 3) := by decide +kernel
theorem dX0_tell_57 : decode cX0_tell 57 = .ok (.ireturn, 1) := by decide +kernel
theorem dX0_tell_58 : decode cX0_tell 58 = .ok (.aload_n 0, 1) := by decide +kernel
theorem dX0_tell_59 : decode cX0_tell 59 = .ok (.invokevirtual 77, 3) := by decide +kernel
theorem dX0_tell_62 : decode cX0_tell 62 = .ok (.ireturn, 1) := by decide +kernel
theorem dX0_tell_63 : decode cX0_tell 63 = .ok (.aload_n 0, 1) := by decide +kernel
theorem dX0_tell_64 : decode cX0_tell 64 = .ok (.getfield 41, 3) := by decide +kernel
theorem dX0_tell_67 : decode cX0_tell 67 = .ok (.ireturn, 1) := by decide +kernel
theorem dX0_tell_68 : decode cX0_tell 68 = .ok (.aload_n 0, 1) := by decide +kernel
theorem dX0_tell_69 : decode cX0_tell 69 = .ok (.aload_n 0, 1) := by decide +kernel
theorem dX0_tell_70 : decode cX0_tell 70 = .ok (.getfield 9, 3) := by decide +kernel
theorem dX0_tell_73 : decode cX0_tell 73 = .ok (.iconst 0, 1) := by decide +kernel
theorem dX0_tell_74 : decode cX0_tell 74 = .ok (.invokevirtual 58, 3) := by decide +kernel
theorem dX0_tell_77 : decode cX0_tell 77 = .ok (.invokevirtual 80, 3) := by decide +kernel
theorem dX0_tell_80 : decode cX0_tell 80 = .ok (.ireturn, 1) := by decide +kernel
theorem dX0_tell_81 : decode cX0_tell 81 = .ok (.aload_n 0, 1) := by decide +kernel
theorem dX0_tell_82 : decode cX0_tell 82 = .ok (.getfield 41, 3) := by decide +kernel
theorem dX0_tell_85 : decode cX0_tell 85 = .ok (.aload_n 0, 1) := by decide +kernel
theorem dX0_tell_86 : decode cX0_tell 86 = .ok (.aload_n 0, 1) := by decide +kernel
theorem dX0_tell_87 : decode cX0_tell 87 = .ok (.getfield 9, 3) := by decide +kernel
theorem dX0_tell_90 : decode cX0_tell 90 = .ok (.iconst 0, 1) := by decide +kernel
theorem dX0_tell_91 : decode cX0_tell 91 = .ok (.invokevirtual 58, 3) := by decide +kernel
theorem dX0_tell_94 : decode cX0_tell 94 = .ok (.invokevirtual 80, 3) := by decide +kernel
theorem dX0_tell_97 : decode cX0_tell 97 = .ok (.isub, 1) := by decide +kernel
theorem dX0_tell_98 : decode cX0_tell 98 = .ok (.ireturn, 1) := by decide +kernel
theorem dX0_tell_99 : decode cX0_tell 99 = .ok (.aload_n 0, 1) := by decide +kernel
theorem dX0_tell_100 : decode cX0_tell 100 = .ok (.invokevirtual 83, 3) := by decide +kernel
theorem dX0_tell_103 : decode cX0_tell 103 = .ok (.ireturn, 1) := by decide +kernel
theorem dX0_tell_104 : decode cX0_tell 104 = .ok (.aload_n 0, 1) := by decide +kernel
theorem dX0_tell_105 : decode cX0_tell 105 = .ok (.getfield 45, 3) := by decide +kernel
theorem dX0_tell_108 : decode cX0_tell 108 = .ok (.ireturn, 1) := by decide +kernel
theorem dX0_tell_109 : decode cX0_tell 109 = .ok (.aload_n 0, 1) := by decide +kernel
theorem dX0_tell_110 : decode cX0_tell 110 = .ok (.getfield 34, 3) := by decide +kernel
theorem dX0_tell_113 : decode cX0_tell 113 = .ok (.ireturn, 1) := by decide +kernel
set_option maxRecDepth 20000 in
theorem ggX0_keptForAll_X0_widowAt : GoodIn wsX0_keptForAll wsX0_widowAt := goodIn_r _ [7, 8, 35, 36, 37, 38, 39, 40, 41] (by decide +kernel) (by decide +kernel)
set_option maxRecDepth 20000 in
theorem gX0_keptForAll_X0_widowAt : GoodIn wsX0_keptForAll (wsV RX0 26 RX0 yX0_widowAt wsX0_widowAt) := goodIn_app (goodIn_of _ (by decide +kernel)) ggX0_keptForAll_X0_widowAt
set_option maxRecDepth 20000 in
theorem ggX0_keptForAll_X1_keptWith : GoodIn wsX0_keptForAll wsX1_keptWith := goodIn_r _ [13, 14, 15, 16, 17, 18, 19, 20, 21, 22, 23, 24, 25, 12, 26, 27, 28, 29, 30, 31, 32, 33, 34, 42, 43, 44, 45, 46, 47, 48, 49, 50] (by decide +kernel) (by decide +kernel)
set_option maxRecDepth 20000 in
theorem gX0_keptForAll_X1_keptWith : GoodIn wsX0_keptForAll (wsV RX0 86 RX1 yX1_keptWith wsX1_keptWith) := goodIn_app (goodIn_of _ (by decide +kernel)) ggX0_keptForAll_X1_keptWith
theorem dX0_keptForAll_0 : decode cX0_keptForAll 0 = .ok (.iconst 0, 1) := by decide +kernel
theorem dX0_keptForAll_1 : decode cX0_keptForAll 1 = .ok (.istore_n 2, 1) := by decide +kernel
theorem dX0_keptForAll_2 : decode cX0_keptForAll 2 = .ok (.iconst 0, 1) := by decide +kernel
theorem dX0_keptForAll_3 : decode cX0_keptForAll 3 = .ok (.istore_n 3, 1) := by decide +kernel
theorem dX0_keptForAll_4 : decode cX0_keptForAll 4 = .ok (.iload_n 3, 1) := by decide +kernel
theorem dX0_keptForAll_5 : decode cX0_keptForAll 5 = .ok (.aload_n 0, 1) := by decide +kernel
theorem dX0_keptForAll_6 : decode cX0_keptForAll 6 = .ok (.getfield 22, 3) := by decide +kernel
theorem dX0_keptForAll_9 : decode cX0_keptForAll 9 = .ok (.if_icmp .ge 25, 3) := by decide +kernel
theorem dX0_keptForAll_12 : decode cX0_keptForAll 12 = .ok (.iload_n 2, 1) := by decide +kernel
theorem dX0_keptForAll_13 : decode cX0_keptForAll 13 = .ok (.aload_n 0, 1) := by decide +kernel
theorem dX0_keptForAll_14 : decode cX0_keptForAll 14 = .ok (.getfield 9, 3) := by decide +kernel
theorem dX0_keptForAll_17 : decode cX0_keptForAll 17 = .ok (.aload_n 0, 1) := by decide +kernel
theorem dX0_keptForAll_18 : decode cX0_keptForAll 18 = .ok (.iload_n 3, 1) := by decide +kernel
theorem dX0_keptForAll_19 : decode cX0_keptForAll 19 = .ok (.invokevirtual 26, 3) := by decide +kernel
theorem dX0_keptForAll_22 : decode cX0_keptForAll 22 = .ok (.iload_n 1, 1) := by decide +kernel
theorem dX0_keptForAll_23 : decode cX0_keptForAll 23 = .ok (.invokevirtual 86, 3) := by decide +kernel
theorem dX0_keptForAll_26 : decode cX0_keptForAll 26 = .ok (.iadd, 1) := by decide +kernel
theorem dX0_keptForAll_27 : decode cX0_keptForAll 27 = .ok (.istore_n 2, 1) := by decide +kernel
theorem dX0_keptForAll_28 : decode cX0_keptForAll 28 = .ok (.iinc 3 1, 3) := by decide +kernel
theorem dX0_keptForAll_31 : decode cX0_keptForAll 31 = .ok (.goto (-27), 3) := by decide +kernel
theorem dX0_keptForAll_34 : decode cX0_keptForAll 34 = .ok (.iload_n 2, 1) := by decide +kernel
theorem dX0_keptForAll_35 : decode cX0_keptForAll 35 = .ok (.ireturn, 1) := by decide +kernel
set_option maxRecDepth 20000 in
theorem ggX0_living_X0_widowAt : GoodIn wsX0_living wsX0_widowAt := goodIn_r _ [6, 7, 14, 15, 16, 17, 18, 19, 20] (by decide +kernel) (by decide +kernel)
set_option maxRecDepth 20000 in
theorem gX0_living_X0_widowAt : GoodIn wsX0_living (wsV RX0 26 RX0 yX0_widowAt wsX0_widowAt) := goodIn_app (goodIn_of _ (by decide +kernel)) ggX0_living_X0_widowAt
set_option maxRecDepth 20000 in
theorem ggX0_living_X2_lives : GoodIn wsX0_living wsX2_lives := goodIn_r _ [12, 13, 21, 22, 23, 24, 25, 26, 27] (by decide +kernel) (by decide +kernel)
set_option maxRecDepth 20000 in
theorem gX0_living_X2_lives : GoodIn wsX0_living (wsV RX0 66 RX2 yX2_lives wsX2_lives) := goodIn_app (goodIn_of _ (by decide +kernel)) ggX0_living_X2_lives
theorem dX0_living_0 : decode cX0_living 0 = .ok (.iconst 0, 1) := by decide +kernel
theorem dX0_living_1 : decode cX0_living 1 = .ok (.istore_n 1, 1) := by decide +kernel
theorem dX0_living_2 : decode cX0_living 2 = .ok (.iconst 0, 1) := by decide +kernel
theorem dX0_living_3 : decode cX0_living 3 = .ok (.istore_n 2, 1) := by decide +kernel
theorem dX0_living_4 : decode cX0_living 4 = .ok (.iload_n 2, 1) := by decide +kernel
theorem dX0_living_5 : decode cX0_living 5 = .ok (.aload_n 0, 1) := by decide +kernel
theorem dX0_living_6 : decode cX0_living 6 = .ok (.getfield 22, 3) := by decide +kernel
theorem dX0_living_9 : decode cX0_living 9 = .ok (.if_icmp .ge 23, 3) := by decide +kernel
theorem dX0_living_12 : decode cX0_living 12 = .ok (.aload_n 0, 1) := by decide +kernel
theorem dX0_living_13 : decode cX0_living 13 = .ok (.iload_n 2, 1) := by decide +kernel
theorem dX0_living_14 : decode cX0_living 14 = .ok (.invokevirtual 26, 3) := by decide +kernel
theorem dX0_living_17 : decode cX0_living 17 = .ok (.invokevirtual 66, 3) := by decide +kernel
theorem dX0_living_20 : decode cX0_living 20 = .ok (.ifCond .eq 6, 3) := by decide +kernel
theorem dX0_living_23 : decode cX0_living 23 = .ok (.iinc 1 1, 3) := by decide +kernel
theorem dX0_living_26 : decode cX0_living 26 = .ok (.iinc 2 1, 3) := by decide +kernel
theorem dX0_living_29 : decode cX0_living 29 = .ok (.goto (-25), 3) := by decide +kernel
theorem dX0_living_32 : decode cX0_living 32 = .ok (.iload_n 1, 1) := by decide +kernel
theorem dX0_living_33 : decode cX0_living 33 = .ok (.ireturn, 1) := by decide +kernel
set_option maxRecDepth 20000 in
theorem ggX0_agesOfLiving_X0_widowAt : GoodIn wsX0_agesOfLiving wsX0_widowAt := goodIn_r _ [7, 8, 15, 16, 17, 18, 19, 20, 21] (by decide +kernel) (by decide +kernel)
set_option maxRecDepth 20000 in
theorem gX0_agesOfLiving_X0_widowAt : GoodIn wsX0_agesOfLiving (wsV RX0 26 RX0 yX0_widowAt wsX0_widowAt) := goodIn_app (goodIn_of _ (by decide +kernel)) ggX0_agesOfLiving_X0_widowAt
set_option maxRecDepth 20000 in
theorem ggX0_agesOfLiving_X2_lives : GoodIn wsX0_agesOfLiving wsX2_lives := goodIn_r _ [13, 14, 22, 23, 24, 25, 26, 27, 28] (by decide +kernel) (by decide +kernel)
set_option maxRecDepth 20000 in
theorem gX0_agesOfLiving_X2_lives : GoodIn wsX0_agesOfLiving (wsV RX0 66 RX2 yX2_lives wsX2_lives) := goodIn_app (goodIn_of _ (by decide +kernel)) ggX0_agesOfLiving_X2_lives
theorem dX0_agesOfLiving_0 : decode cX0_agesOfLiving 0 = .ok (.iconst 0, 1) := by decide +kernel
theorem dX0_agesOfLiving_1 : decode cX0_agesOfLiving 1 = .ok (.istore_n 1, 1) := by decide +kernel
theorem dX0_agesOfLiving_2 : decode cX0_agesOfLiving 2 = .ok (.iconst 0, 1) := by decide +kernel
theorem dX0_agesOfLiving_3 : decode cX0_agesOfLiving 3 = .ok (.istore_n 2, 1) := by decide +kernel
theorem dX0_agesOfLiving_4 : decode cX0_agesOfLiving 4 = .ok (.iload_n 2, 1) := by decide +kernel
theorem dX0_agesOfLiving_5 : decode cX0_agesOfLiving 5 = .ok (.aload_n 0, 1) := by decide +kernel
theorem dX0_agesOfLiving_6 : decode cX0_agesOfLiving 6 = .ok (.getfield 22, 3) := by decide +kernel
theorem dX0_agesOfLiving_9 : decode cX0_agesOfLiving 9 = .ok (.if_icmp .ge 29, 3) := by decide +kernel
theorem dX0_agesOfLiving_12 : decode cX0_agesOfLiving 12 = .ok (.aload_n 0, 1) := by decide +kernel
theorem dX0_agesOfLiving_13 : decode cX0_agesOfLiving 13 = .ok (.iload_n 2, 1) := by decide +kernel
theorem dX0_agesOfLiving_14 : decode cX0_agesOfLiving 14 = .ok (.invokevirtual 26, 3) := by decide +kernel
theorem dX0_agesOfLiving_17 : decode cX0_agesOfLiving 17 = .ok (.astore_n 3, 1) := by decide +kernel
theorem dX0_agesOfLiving_18 : decode cX0_agesOfLiving 18 = .ok (.aload_n 3, 1) := by decide +kernel
theorem dX0_agesOfLiving_19 : decode cX0_agesOfLiving 19 = .ok (.invokevirtual 66, 3) := by decide +kernel
theorem dX0_agesOfLiving_22 : decode cX0_agesOfLiving 22 = .ok (.ifCond .eq 10, 3) := by decide +kernel
theorem dX0_agesOfLiving_25 : decode cX0_agesOfLiving 25 = .ok (.iload_n 1, 1) := by decide +kernel
theorem dX0_agesOfLiving_26 : decode cX0_agesOfLiving 26 = .ok (.aload_n 3, 1) := by decide +kernel
theorem dX0_agesOfLiving_27 : decode cX0_agesOfLiving 27 = .ok (.getfield 90, 3) := by decide +kernel
theorem dX0_agesOfLiving_30 : decode cX0_agesOfLiving 30 = .ok (.iadd, 1) := by decide +kernel
theorem dX0_agesOfLiving_31 : decode cX0_agesOfLiving 31 = .ok (.istore_n 1, 1) := by decide +kernel
theorem dX0_agesOfLiving_32 : decode cX0_agesOfLiving 32 = .ok (.iinc 2 1, 3) := by decide +kernel
theorem dX0_agesOfLiving_35 : decode cX0_agesOfLiving 35 = .ok (.goto (-31), 3) := by decide +kernel
theorem dX0_agesOfLiving_38 : decode cX0_agesOfLiving 38 = .ok (.iload_n 1, 1) := by decide +kernel
theorem dX0_agesOfLiving_39 : decode cX0_agesOfLiving 39 = .ok (.ireturn, 1) := by decide +kernel
set_option maxRecDepth 20000 in
theorem ggX0_sumsDue_X0_widowAt : GoodIn wsX0_sumsDue wsX0_widowAt := goodIn_r _ [8, 9, 16, 17, 18, 19, 20, 21, 22] (by decide +kernel) (by decide +kernel)
set_option maxRecDepth 20000 in
theorem gX0_sumsDue_X0_widowAt : GoodIn wsX0_sumsDue (wsV RX0 26 RX0 yX0_widowAt wsX0_widowAt) := goodIn_app (goodIn_of _ (by decide +kernel)) ggX0_sumsDue_X0_widowAt
set_option maxRecDepth 20000 in
theorem ggX0_sumsDue_X2_lives : GoodIn wsX0_sumsDue wsX2_lives := goodIn_r _ [14, 15, 23, 24, 25, 26, 27, 28, 29] (by decide +kernel) (by decide +kernel)
set_option maxRecDepth 20000 in
theorem gX0_sumsDue_X2_lives : GoodIn wsX0_sumsDue (wsV RX0 66 RX2 yX2_lives wsX2_lives) := goodIn_app (goodIn_of _ (by decide +kernel)) ggX0_sumsDue_X2_lives
theorem dX0_sumsDue_0 : decode cX0_sumsDue 0 = .ok (.iconst 0, 1) := by decide +kernel
theorem dX0_sumsDue_1 : decode cX0_sumsDue 1 = .ok (.istore_n 1, 1) := by decide +kernel
theorem dX0_sumsDue_2 : decode cX0_sumsDue 2 = .ok (.iconst 0, 1) := by decide +kernel
theorem dX0_sumsDue_3 : decode cX0_sumsDue 3 = .ok (.istore_n 2, 1) := by decide +kernel
theorem dX0_sumsDue_4 : decode cX0_sumsDue 4 = .ok (.iload_n 2, 1) := by decide +kernel
theorem dX0_sumsDue_5 : decode cX0_sumsDue 5 = .ok (.aload_n 0, 1) := by decide +kernel
theorem dX0_sumsDue_6 : decode cX0_sumsDue 6 = .ok (.getfield 22, 3) := by decide +kernel
theorem dX0_sumsDue_9 : decode cX0_sumsDue 9 = .ok (.if_icmp .ge 36, 3) := by decide +kernel
theorem dX0_sumsDue_12 : decode cX0_sumsDue 12 = .ok (.aload_n 0, 1) := by decide +kernel
theorem dX0_sumsDue_13 : decode cX0_sumsDue 13 = .ok (.iload_n 2, 1) := by decide +kernel
theorem dX0_sumsDue_14 : decode cX0_sumsDue 14 = .ok (.invokevirtual 26, 3) := by decide +kernel
theorem dX0_sumsDue_17 : decode cX0_sumsDue 17 = .ok (.astore_n 3, 1) := by decide +kernel
theorem dX0_sumsDue_18 : decode cX0_sumsDue 18 = .ok (.aload_n 3, 1) := by decide +kernel
theorem dX0_sumsDue_19 : decode cX0_sumsDue 19 = .ok (.invokevirtual 66, 3) := by decide +kernel
theorem dX0_sumsDue_22 : decode cX0_sumsDue 22 = .ok (.ifCond .eq 17, 3) := by decide +kernel
theorem dX0_sumsDue_25 : decode cX0_sumsDue 25 = .ok (.aload_n 3, 1) := by decide +kernel
theorem dX0_sumsDue_26 : decode cX0_sumsDue 26 = .ok (.getfield 93, 3) := by decide +kernel
theorem dX0_sumsDue_29 : decode cX0_sumsDue 29 = .ok (.ifCond .ne 10, 3) := by decide +kernel
theorem dX0_sumsDue_32 : decode cX0_sumsDue 32 = .ok (.iload_n 1, 1) := by decide +kernel
theorem dX0_sumsDue_33 : decode cX0_sumsDue 33 = .ok (.aload_n 3, 1) := by decide +kernel
theorem dX0_sumsDue_34 : decode cX0_sumsDue 34 = .ok (.getfield 96, 3) := by decide +kernel
theorem dX0_sumsDue_37 : decode cX0_sumsDue 37 = .ok (.iadd, 1) := by decide +kernel
theorem dX0_sumsDue_38 : decode cX0_sumsDue 38 = .ok (.istore_n 1, 1) := by decide +kernel
theorem dX0_sumsDue_39 : decode cX0_sumsDue 39 = .ok (.iinc 2 1, 3) := by decide +kernel
theorem dX0_sumsDue_42 : decode cX0_sumsDue 42 = .ok (.goto (-38), 3) := by decide +kernel
theorem dX0_sumsDue_45 : decode cX0_sumsDue 45 = .ok (.iload_n 1, 1) := by decide +kernel
theorem dX0_sumsDue_46 : decode cX0_sumsDue 46 = .ok (.ireturn, 1) := by decide +kernel
theorem dX1_init_0 : decode cX1_init 0 = .ok (.aload_n 0, 1) := by decide +kernel
theorem dX1_init_1 : decode cX1_init 1 = .ok (.invokespecial 3, 3) := by decide +kernel
theorem dX1_init_4 : decode cX1_init 4 = .ok (.aload_n 0, 1) := by decide +kernel
theorem dX1_init_5 : decode cX1_init 5 = .ok (.bipush 50, 2) := by decide +kernel
theorem dX1_init_7 : decode cX1_init 7 = .ok (.newarray .int, 2) := by decide +kernel
theorem dX1_init_9 : decode cX1_init 9 = .ok (.putfield 9, 3) := by decide +kernel
theorem dX1_init_12 : decode cX1_init 12 = .ok (.iconst 0, 1) := by decide +kernel
theorem dX1_init_13 : decode cX1_init 13 = .ok (.istore_n 1, 1) := by decide +kernel
theorem dX1_init_14 : decode cX1_init 14 = .ok (.iload_n 1, 1) := by decide +kernel
theorem dX1_init_15 : decode cX1_init 15 = .ok (.bipush 50, 2) := by decide +kernel
theorem dX1_init_17 : decode cX1_init 17 = .ok (.if_icmp .ge 22, 3) := by decide +kernel
theorem dX1_init_20 : decode cX1_init 20 = .ok (.aload_n 0, 1) := by decide +kernel
theorem dX1_init_21 : decode cX1_init 21 = .ok (.getfield 9, 3) := by decide +kernel
theorem dX1_init_24 : decode cX1_init 24 = .ok (.iload_n 1, 1) := by decide +kernel
theorem dX1_init_25 : decode cX1_init 25 = .ok (.bipush 10, 2) := by decide +kernel
theorem dX1_init_27 : decode cX1_init 27 = .ok (.bipush 8, 2) := by decide +kernel
theorem dX1_init_29 : decode cX1_init 29 = .ok (.iload_n 1, 1) := by decide +kernel
theorem dX1_init_30 : decode cX1_init 30 = .ok (.imul, 1) := by decide +kernel
theorem dX1_init_31 : decode cX1_init 31 = .ok (.iadd, 1) := by decide +kernel
theorem dX1_init_32 : decode cX1_init 32 = .ok (.iastore, 1) := by decide +kernel
theorem dX1_init_33 : decode cX1_init 33 = .ok (.iinc 1 1, 3) := by decide +kernel
theorem dX1_init_36 : decode cX1_init 36 = .ok (.goto (-22), 3) := by decide +kernel
theorem dX1_init_39 : decode cX1_init 39 = .ok (.aload_n 0, 1) := by decide +kernel
theorem dX1_init_40 : decode cX1_init 40 = .ok (.iconst 3, 1) := by decide +kernel
theorem dX1_init_41 : decode cX1_init 41 = .ok (.newarray .int, 2) := by decide +kernel
theorem dX1_init_43 : decode cX1_init 43 = .ok (.putfield 15, 3) := by decide +kernel
theorem dX1_init_46 : decode cX1_init 46 = .ok (.aload_n 0, 1) := by decide +kernel
theorem dX1_init_47 : decode cX1_init 47 = .ok (.getfield 15, 3) := by decide +kernel
theorem dX1_init_50 : decode cX1_init 50 = .ok (.iconst 0, 1) := by decide +kernel
theorem dX1_init_51 : decode cX1_init 51 = .ok (.bipush 40, 2) := by decide +kernel
theorem dX1_init_53 : decode cX1_init 53 = .ok (.iastore, 1) := by decide +kernel
theorem dX1_init_54 : decode cX1_init 54 = .ok (.aload_n 0, 1) := by decide +kernel
theorem dX1_init_55 : decode cX1_init 55 = .ok (.getfield 15, 3) := by decide +kernel
theorem dX1_init_58 : decode cX1_init 58 = .ok (.iconst 1, 1) := by decide +kernel
theorem dX1_init_59 : decode cX1_init 59 = .ok (.iconst 5, 1) := by decide +kernel
theorem dX1_init_60 : decode cX1_init 60 = .ok (.iastore, 1) := by decide +kernel
theorem dX1_init_61 : decode cX1_init 61 = .ok (.aload_n 0, 1) := by decide +kernel
theorem dX1_init_62 : decode cX1_init 62 = .ok (.getfield 15, 3) := by decide +kernel
theorem dX1_init_65 : decode cX1_init 65 = .ok (.iconst 2, 1) := by decide +kernel
theorem dX1_init_66 : decode cX1_init 66 = .ok (.bipush 10, 2) := by decide +kernel
theorem dX1_init_68 : decode cX1_init 68 = .ok (.iastore, 1) := by decide +kernel
theorem dX1_init_69 : decode cX1_init 69 = .ok (.return_, 1) := by decide +kernel
set_option maxRecDepth 20000 in
theorem ggX1_deathsAt_X3_isAge : GoodIn wsX1_deathsAt wsX3_isAge := goodIn_r _ [4] (by decide +kernel) (by decide +kernel)
set_option maxRecDepth 20000 in
theorem gX1_deathsAt_X3_isAge_n18 : GoodIn wsX1_deathsAt (wsX3_isAge) := ggX1_deathsAt_X3_isAge
theorem dX1_deathsAt_0 : decode cX1_deathsAt 0 = .ok (.iload_n 1, 1) := by decide +kernel
theorem dX1_deathsAt_1 : decode cX1_deathsAt 1 = .ok (.invokestatic 18, 3) := by decide +kernel
theorem dX1_deathsAt_4 : decode cX1_deathsAt 4 = .ok (.ifCond .eq 15, 3) := by decide +kernel
theorem dX1_deathsAt_7 : decode cX1_deathsAt 7 = .ok (.aload_n 0, 1) := by decide +kernel
theorem dX1_deathsAt_8 : decode cX1_deathsAt 8 = .ok (.getfield 9, 3) := by decide +kernel
theorem dX1_deathsAt_11 : decode cX1_deathsAt 11 = .ok (.iload_n 1, 1) := by decide +kernel
theorem dX1_deathsAt_12 : decode cX1_deathsAt 12 = .ok (.bipush 50, 2) := by decide +kernel
theorem dX1_deathsAt_14 : decode cX1_deathsAt 14 = .ok (.isub, 1) := by decide +kernel
theorem dX1_deathsAt_15 : decode cX1_deathsAt 15 = .ok (.iaload, 1) := by decide +kernel
theorem dX1_deathsAt_16 : decode cX1_deathsAt 16 = .ok (.goto 6, 3) := by decide +kernel
theorem dX1_deathsAt_19 : decode cX1_deathsAt 19 = .ok (.sipush 1000, 3) := by decide +kernel
theorem dX1_deathsAt_22 : decode cX1_deathsAt 22 = .ok (.ireturn, 1) := by decide +kernel
set_option maxRecDepth 20000 in
theorem ggX1_changeDeaths_X3_isAge : GoodIn wsX1_changeDeaths wsX3_isAge := goodIn_r _ [4] (by decide +kernel) (by decide +kernel)
set_option maxRecDepth 20000 in
theorem gX1_changeDeaths_X3_isAge_n18 : GoodIn wsX1_changeDeaths (wsX3_isAge) := ggX1_changeDeaths_X3_isAge
theorem dX1_changeDeaths_0 : decode cX1_changeDeaths 0 = .ok (.iload_n 1, 1) := by decide +kernel
theorem dX1_changeDeaths_1 : decode cX1_changeDeaths 1 = .ok (.invokestatic 18, 3) := by decide +kernel
theorem dX1_changeDeaths_4 : decode cX1_changeDeaths 4 = .ok (.ifCond .eq 13, 3) := by decide +kernel
theorem dX1_changeDeaths_7 : decode cX1_changeDeaths 7 = .ok (.aload_n 0, 1) := by decide +kernel
theorem dX1_changeDeaths_8 : decode cX1_changeDeaths 8 = .ok (.getfield 9, 3) := by decide +kernel
theorem dX1_changeDeaths_11 : decode cX1_changeDeaths 11 = .ok (.iload_n 1, 1) := by decide +kernel
theorem dX1_changeDeaths_12 : decode cX1_changeDeaths 12 = .ok (.bipush 50, 2) := by decide +kernel
theorem dX1_changeDeaths_14 : decode cX1_changeDeaths 14 = .ok (.isub, 1) := by decide +kernel
theorem dX1_changeDeaths_15 : decode cX1_changeDeaths 15 = .ok (.iload_n 2, 1) := by decide +kernel
theorem dX1_changeDeaths_16 : decode cX1_changeDeaths 16 = .ok (.iastore, 1) := by decide +kernel
theorem dX1_changeDeaths_17 : decode cX1_changeDeaths 17 = .ok (.return_, 1) := by decide +kernel
theorem dX1_rate_0 : decode cX1_rate 0 = .ok (.iload_n 1, 1) := by decide +kernel
theorem dX1_rate_1 : decode cX1_rate 1 = .ok (.ifCond .lt 17, 3) := by decide +kernel
theorem dX1_rate_4 : decode cX1_rate 4 = .ok (.iload_n 1, 1) := by decide +kernel
theorem dX1_rate_5 : decode cX1_rate 5 = .ok (.iconst 3, 1) := by decide +kernel
theorem dX1_rate_6 : decode cX1_rate 6 = .ok (.if_icmp .ge 12, 3) := by decide +kernel
theorem dX1_rate_9 : decode cX1_rate 9 = .ok (.aload_n 0, 1) := by decide +kernel
theorem dX1_rate_10 : decode cX1_rate 10 = .ok (.getfield 15, 3) := by decide +kernel
theorem dX1_rate_13 : decode cX1_rate 13 = .ok (.iload_n 1, 1) := by decide +kernel
theorem dX1_rate_14 : decode cX1_rate 14 = .ok (.iaload, 1) := by decide +kernel
theorem dX1_rate_15 : decode cX1_rate 15 = .ok (.goto 4, 3) := by decide +kernel
theorem dX1_rate_18 : decode cX1_rate 18 = .ok (.iconst 0, 1) := by decide +kernel
theorem dX1_rate_19 : decode cX1_rate 19 = .ok (.ireturn, 1) := by decide +kernel
theorem dX1_changeRate_0 : decode cX1_changeRate 0 = .ok (.iload_n 1, 1) := by decide +kernel
theorem dX1_changeRate_1 : decode cX1_changeRate 1 = .ok (.ifCond .lt 15, 3) := by decide +kernel
theorem dX1_changeRate_4 : decode cX1_changeRate 4 = .ok (.iload_n 1, 1) := by decide +kernel
theorem dX1_changeRate_5 : decode cX1_changeRate 5 = .ok (.iconst 3, 1) := by decide +kernel
theorem dX1_changeRate_6 : decode cX1_changeRate 6 = .ok (.if_icmp .ge 10, 3) := by decide +kernel
theorem dX1_changeRate_9 : decode cX1_changeRate 9 = .ok (.aload_n 0, 1) := by decide +kernel
theorem dX1_changeRate_10 : decode cX1_changeRate 10 = .ok (.getfield 15, 3) := by decide +kernel
theorem dX1_changeRate_13 : decode cX1_changeRate 13 = .ok (.iload_n 1, 1) := by decide +kernel
theorem dX1_changeRate_14 : decode cX1_changeRate 14 = .ok (.iload_n 2, 1) := by decide +kernel
theorem dX1_changeRate_15 : decode cX1_changeRate 15 = .ok (.iastore, 1) := by decide +kernel
theorem dX1_changeRate_16 : decode cX1_changeRate 16 = .ok (.return_, 1) := by decide +kernel
set_option maxRecDepth 20000 in
theorem ggX1_worthNow_X1_worthWith : GoodIn wsX1_worthNow wsX1_worthWith := goodIn_r _ [6, 7, 8, 9, 5, 10, 11, 12, 13, 14, 15, 16] (by decide +kernel) (by decide +kernel)
set_option maxRecDepth 20000 in
theorem gX1_worthNow_X1_worthWith : GoodIn wsX1_worthNow (wsV RX1 22 RX1 yX1_worthWith wsX1_worthWith) := goodIn_app (goodIn_of _ (by decide +kernel)) ggX1_worthNow_X1_worthWith
theorem dX1_worthNow_0 : decode cX1_worthNow 0 = .ok (.aload_n 0, 1) := by decide +kernel
theorem dX1_worthNow_1 : decode cX1_worthNow 1 = .ok (.iload_n 1, 1) := by decide +kernel
theorem dX1_worthNow_2 : decode cX1_worthNow 2 = .ok (.iload_n 2, 1) := by decide +kernel
theorem dX1_worthNow_3 : decode cX1_worthNow 3 = .ok (.aload_n 0, 1) := by decide +kernel
theorem dX1_worthNow_4 : decode cX1_worthNow 4 = .ok (.getfield 15, 3) := by decide +kernel
theorem dX1_worthNow_7 : decode cX1_worthNow 7 = .ok (.iconst 0, 1) := by decide +kernel
theorem dX1_worthNow_8 : decode cX1_worthNow 8 = .ok (.iaload, 1) := by decide +kernel
theorem dX1_worthNow_9 : decode cX1_worthNow 9 = .ok (.invokevirtual 22, 3) := by decide +kernel
theorem dX1_worthNow_12 : decode cX1_worthNow 12 = .ok (.ireturn, 1) := by decide +kernel
set_option maxRecDepth 20000 in
theorem ggX1_worthWith_X1_deathsAt : GoodIn wsX1_worthWith wsX1_deathsAt := goodIn_r _ [5, 6, 7, 8, 9, 10, 11] (by decide +kernel) (by decide +kernel)
set_option maxRecDepth 20000 in
theorem gX1_worthWith_X1_deathsAt : GoodIn wsX1_worthWith (wsV RX1 26 RX1 yX1_deathsAt wsX1_deathsAt) := goodIn_app (goodIn_of _ (by decide +kernel)) ggX1_worthWith_X1_deathsAt
theorem dX1_worthWith_0 : decode cX1_worthWith 0 = .ok (.iload_n 1, 1) := by decide +kernel
theorem dX1_worthWith_1 : decode cX1_worthWith 1 = .ok (.iload_n 2, 1) := by decide +kernel
theorem dX1_worthWith_2 : decode cX1_worthWith 2 = .ok (.iadd, 1) := by decide +kernel
theorem dX1_worthWith_3 : decode cX1_worthWith 3 = .ok (.istore 4, 2) := by decide +kernel
theorem dX1_worthWith_5 : decode cX1_worthWith 5 = .ok (.iload 4, 2) := by decide +kernel
theorem dX1_worthWith_7 : decode cX1_worthWith 7 = .ok (.bipush 99, 2) := by decide +kernel
theorem dX1_worthWith_9 : decode cX1_worthWith 9 = .ok (.if_icmp .gt 7, 3) := by decide +kernel
theorem dX1_worthWith_12 : decode cX1_worthWith 12 = .ok (.iload_n 3, 1) := by decide +kernel
theorem dX1_worthWith_13 : decode cX1_worthWith 13 = .ok (.ifCond .ge 5, 3) := by decide +kernel
theorem dX1_worthWith_16 : decode cX1_worthWith 16 = .ok (.iconst 0, 1) := by decide +kernel
theorem dX1_worthWith_17 : decode cX1_worthWith 17 = .ok (.ireturn, 1) := by decide +kernel
theorem dX1_worthWith_18 : decode cX1_worthWith 18 = .ok (.iconst 0, 1) := by decide +kernel
theorem dX1_worthWith_19 : decode cX1_worthWith 19 = .ok (.istore 5, 2) := by decide +kernel
theorem dX1_worthWith_21 : decode cX1_worthWith 21 = .ok (.bipush 99, 2) := by decide +kernel
theorem dX1_worthWith_23 : decode cX1_worthWith 23 = .ok (.istore 6, 2) := by decide +kernel
theorem dX1_worthWith_25 : decode cX1_worthWith 25 = .ok (.iload 6, 2) := by decide +kernel
theorem dX1_worthWith_27 : decode cX1_worthWith 27 = .ok (.iload_n 1, 1) := by decide +kernel
theorem dX1_worthWith_28 : decode cX1_worthWith 28 = .ok (.if_icmp .lt 49, 3) := by decide +kernel
theorem dX1_worthWith_31 : decode cX1_worthWith 31 = .ok (.iload 6, 2) := by decide +kernel
theorem dX1_worthWith_33 : decode cX1_worthWith 33 = .ok (.iload 4, 2) := by decide +kernel
theorem dX1_worthWith_35 : decode cX1_worthWith 35 = .ok (.if_icmp .lt 9, 3) := by decide +kernel
theorem dX1_worthWith_38 : decode cX1_worthWith 38 = .ok (.sipush 1000, 3) := by decide +kernel
theorem dX1_worthWith_41 : decode cX1_worthWith 41 = .ok (.goto 4, 3) := by decide +kernel
theorem dX1_worthWith_44 : decode cX1_worthWith 44 = .ok (.iconst 0, 1) := by decide +kernel
theorem dX1_worthWith_45 : decode cX1_worthWith 45 = .ok (.istore 7, 2) := by decide +kernel
theorem dX1_worthWith_47 : decode cX1_worthWith 47 = .ok (.sipush 1000, 3) := by decide +kernel
theorem dX1_worthWith_50 : decode cX1_worthWith 50 = .ok (.aload_n 0, 1) := by decide +kernel
theorem dX1_worthWith_51 : decode cX1_worthWith 51 = .ok (.iload 6, 2) := by decide +kernel
theorem dX1_worthWith_53 : decode cX1_worthWith 53 = .ok (.invokevirtual 26, 3) := by decide +kernel
theorem dX1_worthWith_56 : decode cX1_worthWith 56 = .ok (.isub, 1) := by decide +kernel
theorem dX1_worthWith_57 : decode cX1_worthWith 57 = .ok (.iload 7, 2) := by decide +kernel
theorem dX1_worthWith_59 : decode cX1_worthWith 59 = .ok (.iload 5, 2) := by decide +kernel
theorem dX1_worthWith_61 : decode cX1_worthWith 61 = .ok (.iadd, 1) := by decide +kernel
theorem dX1_worthWith_62 : decode cX1_worthWith 62 = .ok (.imul, 1) := by decide +kernel
theorem dX1_worthWith_63 : decode cX1_worthWith 63 = .ok (.sipush 1000, 3) := by decide +kernel
theorem dX1_worthWith_66 : decode cX1_worthWith 66 = .ok (.iload_n 3, 1) := by decide +kernel
theorem dX1_worthWith_67 : decode cX1_worthWith 67 = .ok (.iadd, 1) := by decide +kernel
theorem dX1_worthWith_68 : decode cX1_worthWith 68 = .ok (.idiv, 1) := by decide +kernel
theorem dX1_worthWith_69 : decode cX1_worthWith 69 = .ok (.istore 5, 2) := by decide +kernel
theorem dX1_worthWith_71 : decode cX1_worthWith 71 = .ok (.iinc 6 (-1), 3) := by decide +kernel
theorem dX1_worthWith_74 : decode cX1_worthWith 74 = .ok (.goto (-49), 3) := by decide +kernel
theorem dX1_worthWith_77 : decode cX1_worthWith 77 = .ok (.iload 5, 2) := by decide +kernel
theorem dX1_worthWith_79 : decode cX1_worthWith 79 = .ok (.ireturn, 1) := by decide +kernel
theorem dX1_priceOf_0 : decode cX1_priceOf 0 = .ok (.iload_n 2, 1) := by decide +kernel
theorem dX1_priceOf_1 : decode cX1_priceOf 1 = .ok (.ifCond .ne 5, 3) := by decide +kernel
theorem dX1_priceOf_4 : decode cX1_priceOf 4 = .ok (.iconst 0, 1) := by decide +kernel
theorem dX1_priceOf_5 : decode cX1_priceOf 5 = .ok (.ireturn, 1) := by decide +kernel
theorem dX1_priceOf_6 : decode cX1_priceOf 6 = .ok (.iload_n 1, 1) := by decide +kernel
theorem dX1_priceOf_7 : decode cX1_priceOf 7 = .ok (.iload_n 2, 1) := by decide +kernel
theorem dX1_priceOf_8 : decode cX1_priceOf 8 = .ok (.imul, 1) := by decide +kernel
theorem dX1_priceOf_9 : decode cX1_priceOf 9 = .ok (.sipush 1000, 3) := by decide +kernel
theorem dX1_priceOf_12 : decode cX1_priceOf 12 = .ok (.idiv, 1) := by decide +kernel
theorem dX1_priceOf_13 : decode cX1_priceOf 13 = .ok (.istore_n 3, 1) := by decide +kernel
theorem dX1_priceOf_14 : decode cX1_priceOf 14 = .ok (.iload_n 3, 1) := by decide +kernel
theorem dX1_priceOf_15 : decode cX1_priceOf 15 = .ok (.iload_n 3, 1) := by decide +kernel
theorem dX1_priceOf_16 : decode cX1_priceOf 16 = .ok (.aload_n 0, 1) := by decide +kernel
theorem dX1_priceOf_17 : decode cX1_priceOf 17 = .ok (.getfield 15, 3) := by decide +kernel
theorem dX1_priceOf_20 : decode cX1_priceOf 20 = .ok (.iconst 1, 1) := by decide +kernel
theorem dX1_priceOf_21 : decode cX1_priceOf 21 = .ok (.iaload, 1) := by decide +kernel
theorem dX1_priceOf_22 : decode cX1_priceOf 22 = .ok (.imul, 1) := by decide +kernel
theorem dX1_priceOf_23 : decode cX1_priceOf 23 = .ok (.bipush 100, 2) := by decide +kernel
theorem dX1_priceOf_25 : decode cX1_priceOf 25 = .ok (.idiv, 1) := by decide +kernel
theorem dX1_priceOf_26 : decode cX1_priceOf 26 = .ok (.iadd, 1) := by decide +kernel
theorem dX1_priceOf_27 : decode cX1_priceOf 27 = .ok (.istore 4, 2) := by decide +kernel
theorem dX1_priceOf_29 : decode cX1_priceOf 29 = .ok (.iload 4, 2) := by decide +kernel
theorem dX1_priceOf_31 : decode cX1_priceOf 31 = .ok (.iconst 1, 1) := by decide +kernel
theorem dX1_priceOf_32 : decode cX1_priceOf 32 = .ok (.if_icmp .ge 7, 3) := by decide +kernel
theorem dX1_priceOf_35 : decode cX1_priceOf 35 = .ok (.iconst 1, 1) := by decide +kernel
theorem dX1_priceOf_36 : decode cX1_priceOf 36 = .ok (.goto 5, 3) := by decide +kernel
theorem dX1_priceOf_39 : decode cX1_priceOf 39 = .ok (.iload 4, 2) := by decide +kernel
theorem dX1_priceOf_41 : decode cX1_priceOf 41 = .ok (.ireturn, 1) := by decide +kernel
set_option maxRecDepth 20000 in
theorem ggX1_keptNow_X1_keptWith : GoodIn wsX1_keptNow wsX1_keptWith := goodIn_r _ [6, 7, 8, 9, 10, 11, 12, 13, 14, 15, 16, 17, 18, 5, 19, 20, 21, 22, 23, 24, 25, 26, 27, 30, 31, 32, 33, 34, 35, 36, 28, 29] (by decide +kernel) (by decide +kernel)
set_option maxRecDepth 20000 in
theorem gX1_keptNow_X1_keptWith : GoodIn wsX1_keptNow (wsV RX1 34 RX1 yX1_keptWith wsX1_keptWith) := goodIn_app (goodIn_of _ (by decide +kernel)) ggX1_keptNow_X1_keptWith
theorem dX1_keptNow_0 : decode cX1_keptNow 0 = .ok (.aload_n 0, 1) := by decide +kernel
theorem dX1_keptNow_1 : decode cX1_keptNow 1 = .ok (.aload_n 1, 1) := by decide +kernel
theorem dX1_keptNow_2 : decode cX1_keptNow 2 = .ok (.aload_n 0, 1) := by decide +kernel
theorem dX1_keptNow_3 : decode cX1_keptNow 3 = .ok (.getfield 15, 3) := by decide +kernel
theorem dX1_keptNow_6 : decode cX1_keptNow 6 = .ok (.iconst 0, 1) := by decide +kernel
theorem dX1_keptNow_7 : decode cX1_keptNow 7 = .ok (.iaload, 1) := by decide +kernel
theorem dX1_keptNow_8 : decode cX1_keptNow 8 = .ok (.invokevirtual 34, 3) := by decide +kernel
theorem dX1_keptNow_11 : decode cX1_keptNow 11 = .ok (.ireturn, 1) := by decide +kernel
set_option maxRecDepth 20000 in
theorem ggX1_keptWith_X2_lives : GoodIn wsX1_keptWith wsX2_lives := goodIn_r _ [8, 9, 23, 24, 25, 26, 27, 28, 29] (by decide +kernel) (by decide +kernel)
set_option maxRecDepth 20000 in
theorem gX1_keptWith_X2_lives : GoodIn wsX1_keptWith (wsV RX1 38 RX2 yX2_lives wsX2_lives) := goodIn_app (goodIn_of _ (by decide +kernel)) ggX1_keptWith_X2_lives
set_option maxRecDepth 20000 in
theorem ggX1_keptWith_X1_worthWith : GoodIn wsX1_keptWith wsX1_worthWith := goodIn_r _ [14, 15, 16, 17, 13, 18, 19, 20, 21, 22, 30, 31] (by decide +kernel) (by decide +kernel)
set_option maxRecDepth 20000 in
theorem gX1_keptWith_X1_worthWith : GoodIn wsX1_keptWith (wsV RX1 22 RX1 yX1_worthWith wsX1_worthWith) := goodIn_app (goodIn_of _ (by decide +kernel)) ggX1_keptWith_X1_worthWith
theorem dX1_keptWith_0 : decode cX1_keptWith 0 = .ok (.aload_n 1, 1) := by decide +kernel
theorem dX1_keptWith_1 : decode cX1_keptWith 1 = .ok (.invokevirtual 38, 3) := by decide +kernel
theorem dX1_keptWith_4 : decode cX1_keptWith 4 = .ok (.ifCond .eq 28, 3) := by decide +kernel
theorem dX1_keptWith_7 : decode cX1_keptWith 7 = .ok (.aload_n 1, 1) := by decide +kernel
theorem dX1_keptWith_8 : decode cX1_keptWith 8 = .ok (.getfield 44, 3) := by decide +kernel
theorem dX1_keptWith_11 : decode cX1_keptWith 11 = .ok (.aload_n 0, 1) := by decide +kernel
theorem dX1_keptWith_12 : decode cX1_keptWith 12 = .ok (.aload_n 1, 1) := by decide +kernel
theorem dX1_keptWith_13 : decode cX1_keptWith 13 = .ok (.getfield 48, 3) := by decide +kernel
theorem dX1_keptWith_16 : decode cX1_keptWith 16 = .ok (.aload_n 1, 1) := by decide +kernel
theorem dX1_keptWith_17 : decode cX1_keptWith 17 = .ok (.getfield 51, 3) := by decide +kernel
theorem dX1_keptWith_20 : decode cX1_keptWith 20 = .ok (.iload_n 2, 1) := by decide +kernel
theorem dX1_keptWith_21 : decode cX1_keptWith 21 = .ok (.invokevirtual 22, 3) := by decide +kernel
theorem dX1_keptWith_24 : decode cX1_keptWith 24 = .ok (.imul, 1) := by decide +kernel
theorem dX1_keptWith_25 : decode cX1_keptWith 25 = .ok (.sipush 1000, 3) := by decide +kernel
theorem dX1_keptWith_28 : decode cX1_keptWith 28 = .ok (.idiv, 1) := by decide +kernel
theorem dX1_keptWith_29 : decode cX1_keptWith 29 = .ok (.goto 4, 3) := by decide +kernel
theorem dX1_keptWith_32 : decode cX1_keptWith 32 = .ok (.iconst 0, 1) := by decide +kernel
theorem dX1_keptWith_33 : decode cX1_keptWith 33 = .ok (.ireturn, 1) := by decide +kernel
set_option maxRecDepth 20000 in
theorem ggX1_givenBack_X2_canGiveUp : GoodIn wsX1_givenBack wsX2_canGiveUp := goodIn_r _ [6, 7, 8, 9, 10, 5, 11, 12, 40, 41, 42, 43, 44, 45, 46] (by decide +kernel) (by decide +kernel)
set_option maxRecDepth 20000 in
theorem gX1_givenBack_X2_canGiveUp : GoodIn wsX1_givenBack (wsV RX1 54 RX2 yX2_canGiveUp wsX2_canGiveUp) := goodIn_app (goodIn_of _ (by decide +kernel)) ggX1_givenBack_X2_canGiveUp
set_option maxRecDepth 20000 in
theorem ggX1_givenBack_X1_keptNow : GoodIn wsX1_givenBack wsX1_keptNow := goodIn_r _ [17, 1, 18, 19, 20, 16, 21, 22, 23, 24, 25, 9, 10, 5, 11, 12, 26, 27, 28, 29, 30, 31, 32, 33, 34, 35, 36, 37, 38, 39, 40, 41, 42, 43, 44, 45, 46] (by decide +kernel) (by decide +kernel)
set_option maxRecDepth 20000 in
theorem gX1_givenBack_X1_keptNow : GoodIn wsX1_givenBack (wsV RX1 57 RX1 yX1_keptNow wsX1_keptNow) := goodIn_app (goodIn_of _ (by decide +kernel)) ggX1_givenBack_X1_keptNow
theorem dX1_givenBack_0 : decode cX1_givenBack 0 = .ok (.aload_n 1, 1) := by decide +kernel
theorem dX1_givenBack_1 : decode cX1_givenBack 1 = .ok (.invokevirtual 54, 3) := by decide +kernel
theorem dX1_givenBack_4 : decode cX1_givenBack 4 = .ok (.ifCond .ne 5, 3) := by decide +kernel
theorem dX1_givenBack_7 : decode cX1_givenBack 7 = .ok (.iconst 0, 1) := by decide +kernel
theorem dX1_givenBack_8 : decode cX1_givenBack 8 = .ok (.ireturn, 1) := by decide +kernel
theorem dX1_givenBack_9 : decode cX1_givenBack 9 = .ok (.aload_n 0, 1) := by decide +kernel
theorem dX1_givenBack_10 : decode cX1_givenBack 10 = .ok (.aload_n 1, 1) := by decide +kernel
theorem dX1_givenBack_11 : decode cX1_givenBack 11 = .ok (.invokevirtual 57, 3) := by decide +kernel
theorem dX1_givenBack_14 : decode cX1_givenBack 14 = .ok (.istore_n 2, 1) := by decide +kernel
theorem dX1_givenBack_15 : decode cX1_givenBack 15 = .ok (.iload_n 2, 1) := by decide +kernel
theorem dX1_givenBack_16 : decode cX1_givenBack 16 = .ok (.iload_n 2, 1) := by decide +kernel
theorem dX1_givenBack_17 : decode cX1_givenBack 17 = .ok (.aload_n 0, 1) := by decide +kernel
theorem dX1_givenBack_18 : decode cX1_givenBack 18 = .ok (.getfield 15, 3) := by decide +kernel
theorem dX1_givenBack_21 : decode cX1_givenBack 21 = .ok (.iconst 2, 1) := by decide +kernel
theorem dX1_givenBack_22 : decode cX1_givenBack 22 = .ok (.iaload, 1) := by decide +kernel
theorem dX1_givenBack_23 : decode cX1_givenBack 23 = .ok (.imul, 1) := by decide +kernel
theorem dX1_givenBack_24 : decode cX1_givenBack 24 = .ok (.bipush 100, 2) := by decide +kernel
theorem dX1_givenBack_26 : decode cX1_givenBack 26 = .ok (.idiv, 1) := by decide +kernel
theorem dX1_givenBack_27 : decode cX1_givenBack 27 = .ok (.isub, 1) := by decide +kernel
theorem dX1_givenBack_28 : decode cX1_givenBack 28 = .ok (.ireturn, 1) := by decide +kernel
set_option maxRecDepth 20000 in
theorem ggX1_tellOf_X1_keptNow : GoodIn wsX1_tellOf wsX1_keptNow := goodIn_r _ [12, 13, 14, 15, 16, 11, 17, 2, 1, 3, 18, 19, 20, 21, 22, 23, 24, 25, 26, 27, 28, 29, 30, 31, 32, 33, 34, 35, 53, 54, 46, 47, 48, 49, 50, 51, 52] (by decide +kernel) (by decide +kernel)
set_option maxRecDepth 20000 in
theorem gX1_tellOf_X1_keptNow : GoodIn wsX1_tellOf (wsV RX1 57 RX1 yX1_keptNow wsX1_keptNow) := goodIn_app (goodIn_of _ (by decide +kernel)) ggX1_tellOf_X1_keptNow
set_option maxRecDepth 20000 in
theorem ggX1_tellOf_X1_givenBack : GoodIn wsX1_tellOf wsX1_givenBack := goodIn_r _ [39, 13, 40, 41, 42, 21, 43, 44, 45, 19, 20, 22, 23, 8, 9, 10, 11, 12, 14, 15, 16, 17, 2, 1, 3, 18, 24, 25, 26, 27, 28, 29, 30, 31, 32, 33, 34, 35, 53, 54, 46, 47, 48, 49, 50, 51, 52] (by decide +kernel) (by decide +kernel)
set_option maxRecDepth 20000 in
theorem gX1_tellOf_X1_givenBack : GoodIn wsX1_tellOf (wsV RX1 73 RX1 yX1_givenBack wsX1_givenBack) := goodIn_app (goodIn_of _ (by decide +kernel)) ggX1_tellOf_X1_givenBack
theorem dX1_tellOf_0 : decode cX1_tellOf 0 = .ok (.iload_n 2, 1) := by decide +kernel
theorem dX1_tellOf_1 : decode cX1_tellOf 1 = .ok (.tableswitch 88 0 7 #[47, 52, 57, 62, 67, 72, 78, 83], 47) := by decide +kernel
theorem dX1_tellOf_48 : decode cX1_tellOf 48 = .ok (.aload_n 1, 1) := by decide +kernel
theorem dX1_tellOf_49 : decode cX1_tellOf 49 = .ok (.getfield 48, 3) := by decide +kernel
theorem dX1_tellOf_52 : decode cX1_tellOf 52 = .ok (.ireturn, 1) := by decide +kernel
theorem dX1_tellOf_53 : decode cX1_tellOf 53 = .ok (.aload_n 1, 1) := by decide +kernel
theorem dX1_tellOf_54 : decode cX1_tellOf 54 = .ok (.getfield 44, 3) := by decide +kernel
theorem dX1_tellOf_57 : decode cX1_tellOf 57 = .ok (.ireturn, 1) := by decide +kernel
theorem dX1_tellOf_58 : decode cX1_tellOf 58 = .ok (.aload_n 1, 1) := by decide +kernel
theorem dX1_tellOf_59 : decode cX1_tellOf 59 = .ok (.getfield 51, 3) := by decide +kernel
theorem dX1_tellOf_62 : decode cX1_tellOf 62 = .ok (.ireturn, 1) := by decide +kernel
theorem dX1_tellOf_63 : decode cX1_tellOf 63 = .ok (.aload_n 1, 1) := by decide +kernel
theorem dX1_tellOf_64 : decode cX1_tellOf 64 = .ok (.getfield 61, 3) := by decide +kernel
theorem dX1_tellOf_67 : decode cX1_tellOf 67 = .ok (.ireturn, 1) := by decide +kernel
theorem dX1_tellOf_68 : decode cX1_tellOf 68 = .ok (.aload_n 1, 1) := by decide +kernel
theorem dX1_tellOf_69 : decode cX1_tellOf 69 = .ok (.getfield 64, 3) := by decide +kernel
theorem dX1_tellOf_72 : decode cX1_tellOf 72 = .ok (.ireturn, 1) := by decide +kernel
theorem dX1_tellOf_73 : decode cX1_tellOf 73 = .ok (.aload_n 0, 1) := by decide +kernel
theorem dX1_tellOf_74 : decode cX1_tellOf 74 = .ok (.aload_n 1, 1) := by decide +kernel
theorem dX1_tellOf_75 : decode cX1_tellOf 75 = .ok (.invokevirtual 57, 3) := by decide +kernel
theorem dX1_tellOf_78 : decode cX1_tellOf 78 = .ok (.ireturn, 1) := by decide +kernel
theorem dX1_tellOf_79 : decode cX1_tellOf 79 = .ok (.aload_n 1, 1) := by decide +kernel
theorem dX1_tellOf_80 : decode cX1_tellOf 80 = .ok (.getfield 67, 3) := by decide +kernel
theorem dX1_tellOf_83 : decode cX1_tellOf 83 = .ok (.ireturn, 1) := by decide +kernel
theorem dX1_tellOf_84 : decode cX1_tellOf 84 = .ok (.aload_n 1, 1) := by decide +kernel
theorem dX1_tellOf_85 : decode cX1_tellOf 85 = .ok (.getfield 70, 3) := by decide +kernel
theorem dX1_tellOf_88 : decode cX1_tellOf 88 = .ok (.ireturn, 1) := by decide +kernel
theorem dX1_tellOf_89 : decode cX1_tellOf 89 = .ok (.aload_n 0, 1) := by decide +kernel
theorem dX1_tellOf_90 : decode cX1_tellOf 90 = .ok (.aload_n 1, 1) := by decide +kernel
theorem dX1_tellOf_91 : decode cX1_tellOf 91 = .ok (.invokevirtual 73, 3) := by decide +kernel
theorem dX1_tellOf_94 : decode cX1_tellOf 94 = .ok (.ireturn, 1) := by decide +kernel
theorem dX2_init_0 : decode cX2_init 0 = .ok (.aload_n 0, 1) := by decide +kernel
theorem dX2_init_1 : decode cX2_init 1 = .ok (.invokespecial 3, 3) := by decide +kernel
theorem dX2_init_4 : decode cX2_init 4 = .ok (.return_, 1) := by decide +kernel
theorem dX2_lives_0 : decode cX2_lives 0 = .ok (.aload_n 0, 1) := by decide +kernel
theorem dX2_lives_1 : decode cX2_lives 1 = .ok (.getfield 9, 3) := by decide +kernel
theorem dX2_lives_4 : decode cX2_lives 4 = .ok (.ifCond .ne 7, 3) := by decide +kernel
theorem dX2_lives_7 : decode cX2_lives 7 = .ok (.iconst 1, 1) := by decide +kernel
theorem dX2_lives_8 : decode cX2_lives 8 = .ok (.goto 4, 3) := by decide +kernel
theorem dX2_lives_11 : decode cX2_lives 11 = .ok (.iconst 0, 1) := by decide +kernel
theorem dX2_lives_12 : decode cX2_lives 12 = .ok (.ireturn, 1) := by decide +kernel
set_option maxRecDepth 20000 in
theorem ggX2_canGiveUp_X2_lives : GoodIn wsX2_canGiveUp wsX2_lives := goodIn_r _ [6, 7, 8, 9, 10, 11, 12, 13, 14] (by decide +kernel) (by decide +kernel)
set_option maxRecDepth 20000 in
theorem gX2_canGiveUp_X2_lives : GoodIn wsX2_canGiveUp (wsV RX2 15 RX2 yX2_lives wsX2_lives) := goodIn_app (goodIn_of _ (by decide +kernel)) ggX2_canGiveUp_X2_lives
theorem dX2_canGiveUp_0 : decode cX2_canGiveUp 0 = .ok (.aload_n 0, 1) := by decide +kernel
theorem dX2_canGiveUp_1 : decode cX2_canGiveUp 1 = .ok (.invokevirtual 15, 3) := by decide +kernel
theorem dX2_canGiveUp_4 : decode cX2_canGiveUp 4 = .ok (.ifCond .eq 15, 3) := by decide +kernel
theorem dX2_canGiveUp_7 : decode cX2_canGiveUp 7 = .ok (.aload_n 0, 1) := by decide +kernel
theorem dX2_canGiveUp_8 : decode cX2_canGiveUp 8 = .ok (.getfield 19, 3) := by decide +kernel
theorem dX2_canGiveUp_11 : decode cX2_canGiveUp 11 = .ok (.iconst 2, 1) := by decide +kernel
theorem dX2_canGiveUp_12 : decode cX2_canGiveUp 12 = .ok (.if_icmp .lt 7, 3) := by decide +kernel
theorem dX2_canGiveUp_15 : decode cX2_canGiveUp 15 = .ok (.iconst 1, 1) := by decide +kernel
theorem dX2_canGiveUp_16 : decode cX2_canGiveUp 16 = .ok (.goto 4, 3) := by decide +kernel
theorem dX2_canGiveUp_19 : decode cX2_canGiveUp 19 = .ok (.iconst 0, 1) := by decide +kernel
theorem dX2_canGiveUp_20 : decode cX2_canGiveUp 20 = .ok (.ireturn, 1) := by decide +kernel
theorem dX2_start_0 : decode cX2_start 0 = .ok (.aload_n 0, 1) := by decide +kernel
theorem dX2_start_1 : decode cX2_start 1 = .ok (.iload_n 1, 1) := by decide +kernel
theorem dX2_start_2 : decode cX2_start 2 = .ok (.putfield 22, 3) := by decide +kernel
theorem dX2_start_5 : decode cX2_start 5 = .ok (.aload_n 0, 1) := by decide +kernel
theorem dX2_start_6 : decode cX2_start 6 = .ok (.iload_n 2, 1) := by decide +kernel
theorem dX2_start_7 : decode cX2_start 7 = .ok (.putfield 25, 3) := by decide +kernel
theorem dX2_start_10 : decode cX2_start 10 = .ok (.aload_n 0, 1) := by decide +kernel
theorem dX2_start_11 : decode cX2_start 11 = .ok (.iload_n 3, 1) := by decide +kernel
theorem dX2_start_12 : decode cX2_start 12 = .ok (.putfield 28, 3) := by decide +kernel
theorem dX2_start_15 : decode cX2_start 15 = .ok (.aload_n 0, 1) := by decide +kernel
theorem dX2_start_16 : decode cX2_start 16 = .ok (.iconst 0, 1) := by decide +kernel
theorem dX2_start_17 : decode cX2_start 17 = .ok (.putfield 19, 3) := by decide +kernel
theorem dX2_start_20 : decode cX2_start 20 = .ok (.aload_n 0, 1) := by decide +kernel
theorem dX2_start_21 : decode cX2_start 21 = .ok (.iconst 0, 1) := by decide +kernel
theorem dX2_start_22 : decode cX2_start 22 = .ok (.putfield 9, 3) := by decide +kernel
theorem dX2_start_25 : decode cX2_start 25 = .ok (.aload_n 0, 1) := by decide +kernel
theorem dX2_start_26 : decode cX2_start 26 = .ok (.iconst 0, 1) := by decide +kernel
theorem dX2_start_27 : decode cX2_start 27 = .ok (.putfield 31, 3) := by decide +kernel
theorem dX2_start_30 : decode cX2_start 30 = .ok (.aload_n 0, 1) := by decide +kernel
theorem dX2_start_31 : decode cX2_start 31 = .ok (.iload 4, 2) := by decide +kernel
theorem dX2_start_33 : decode cX2_start 33 = .ok (.putfield 34, 3) := by decide +kernel
theorem dX2_start_36 : decode cX2_start 36 = .ok (.return_, 1) := by decide +kernel
theorem dX2_liveYear_0 : decode cX2_liveYear 0 = .ok (.aload_n 0, 1) := by decide +kernel
theorem dX2_liveYear_1 : decode cX2_liveYear 1 = .ok (.getfield 28, 3) := by decide +kernel
theorem dX2_liveYear_4 : decode cX2_liveYear 4 = .ok (.ifCond .ne 10, 3) := by decide +kernel
theorem dX2_liveYear_7 : decode cX2_liveYear 7 = .ok (.aload_n 0, 1) := by decide +kernel
theorem dX2_liveYear_8 : decode cX2_liveYear 8 = .ok (.getfield 25, 3) := by decide +kernel
theorem dX2_liveYear_11 : decode cX2_liveYear 11 = .ok (.goto 4, 3) := by decide +kernel
theorem dX2_liveYear_14 : decode cX2_liveYear 14 = .ok (.iconst 0, 1) := by decide +kernel
theorem dX2_liveYear_15 : decode cX2_liveYear 15 = .ok (.istore_n 1, 1) := by decide +kernel
theorem dX2_liveYear_16 : decode cX2_liveYear 16 = .ok (.aload_n 0, 1) := by decide +kernel
theorem dX2_liveYear_17 : decode cX2_liveYear 17 = .ok (.getfield 28, 3) := by decide +kernel
theorem dX2_liveYear_20 : decode cX2_liveYear 20 = .ok (.ifCond .le 13, 3) := by decide +kernel
theorem dX2_liveYear_23 : decode cX2_liveYear 23 = .ok (.aload_n 0, 1) := by decide +kernel
theorem dX2_liveYear_24 : decode cX2_liveYear 24 = .ok (.dup, 1) := by decide +kernel
theorem dX2_liveYear_25 : decode cX2_liveYear 25 = .ok (.getfield 28, 3) := by decide +kernel
theorem dX2_liveYear_28 : decode cX2_liveYear 28 = .ok (.iconst 1, 1) := by decide +kernel
theorem dX2_liveYear_29 : decode cX2_liveYear 29 = .ok (.isub, 1) := by decide +kernel
theorem dX2_liveYear_30 : decode cX2_liveYear 30 = .ok (.putfield 28, 3) := by decide +kernel
theorem dX2_liveYear_33 : decode cX2_liveYear 33 = .ok (.aload_n 0, 1) := by decide +kernel
theorem dX2_liveYear_34 : decode cX2_liveYear 34 = .ok (.dup, 1) := by decide +kernel
theorem dX2_liveYear_35 : decode cX2_liveYear 35 = .ok (.getfield 31, 3) := by decide +kernel
theorem dX2_liveYear_38 : decode cX2_liveYear 38 = .ok (.iload_n 1, 1) := by decide +kernel
theorem dX2_liveYear_39 : decode cX2_liveYear 39 = .ok (.iadd, 1) := by decide +kernel
theorem dX2_liveYear_40 : decode cX2_liveYear 40 = .ok (.putfield 31, 3) := by decide +kernel
theorem dX2_liveYear_43 : decode cX2_liveYear 43 = .ok (.aload_n 0, 1) := by decide +kernel
theorem dX2_liveYear_44 : decode cX2_liveYear 44 = .ok (.dup, 1) := by decide +kernel
theorem dX2_liveYear_45 : decode cX2_liveYear 45 = .ok (.getfield 22, 3) := by decide +kernel
theorem dX2_liveYear_48 : decode cX2_liveYear 48 = .ok (.iconst 1, 1) := by decide +kernel
theorem dX2_liveYear_49 : decode cX2_liveYear 49 = .ok (.iadd, 1) := by decide +kernel
theorem dX2_liveYear_50 : decode cX2_liveYear 50 = .ok (.putfield 22, 3) := by decide +kernel
theorem dX2_liveYear_53 : decode cX2_liveYear 53 = .ok (.aload_n 0, 1) := by decide +kernel
theorem dX2_liveYear_54 : decode cX2_liveYear 54 = .ok (.dup, 1) := by decide +kernel
theorem dX2_liveYear_55 : decode cX2_liveYear 55 = .ok (.getfield 19, 3) := by decide +kernel
theorem dX2_liveYear_58 : decode cX2_liveYear 58 = .ok (.iconst 1, 1) := by decide +kernel
theorem dX2_liveYear_59 : decode cX2_liveYear 59 = .ok (.iadd, 1) := by decide +kernel
theorem dX2_liveYear_60 : decode cX2_liveYear 60 = .ok (.putfield 19, 3) := by decide +kernel
theorem dX2_liveYear_63 : decode cX2_liveYear 63 = .ok (.aload_n 0, 1) := by decide +kernel
theorem dX2_liveYear_64 : decode cX2_liveYear 64 = .ok (.getfield 22, 3) := by decide +kernel
theorem dX2_liveYear_67 : decode cX2_liveYear 67 = .ok (.bipush 99, 2) := by decide +kernel
theorem dX2_liveYear_69 : decode cX2_liveYear 69 = .ok (.if_icmp .le 8, 3) := by decide +kernel
theorem dX2_liveYear_72 : decode cX2_liveYear 72 = .ok (.aload_n 0, 1) := by decide +kernel
theorem dX2_liveYear_73 : decode cX2_liveYear 73 = .ok (.iconst 1, 1) := by decide +kernel
theorem dX2_liveYear_74 : decode cX2_liveYear 74 = .ok (.putfield 9, 3) := by decide +kernel
theorem dX2_liveYear_77 : decode cX2_liveYear 77 = .ok (.iload_n 1, 1) := by decide +kernel
theorem dX2_liveYear_78 : decode cX2_liveYear 78 = .ok (.ireturn, 1) := by decide +kernel
set_option maxRecDepth 20000 in
theorem ggX3_init_X1_init : GoodIn wsX3_init wsX1_init := goodIn_r _ [15, 16, 2, 3, 17, 18, 19, 32, 33] (by decide +kernel) (by decide +kernel)
set_option maxRecDepth 20000 in
theorem gX3_init_X1_init : GoodIn wsX3_init (wsX1_init) := ggX3_init_X1_init
set_option maxRecDepth 20000 in
theorem ggX3_init_X0_init : GoodIn wsX3_init wsX0_init := goodIn_r _ [22, 23, 2, 3, 24, 25, 26, 27, 28, 29, 30, 31, 37, 38, 39, 40, 41, 42, 43, 44, 45, 46, 47, 48, 49, 50] (by decide +kernel) (by decide +kernel)
set_option maxRecDepth 20000 in
theorem gX3_init_X0_init : GoodIn wsX3_init (wsX0_init) := ggX3_init_X0_init
theorem dX3_init_0 : decode cX3_init 0 = .ok (.aload_n 0, 1) := by decide +kernel
theorem dX3_init_1 : decode cX3_init 1 = .ok (.invokespecial 3, 3) := by decide +kernel
theorem dX3_init_4 : decode cX3_init 4 = .ok (.aload_n 0, 1) := by decide +kernel
theorem dX3_init_5 : decode cX3_init 5 = .ok (.new 9, 3) := by decide +kernel
theorem dX3_init_8 : decode cX3_init 8 = .ok (.dup, 1) := by decide +kernel
theorem dX3_init_9 : decode cX3_init 9 = .ok (.invokespecial 11, 3) := by decide +kernel
theorem dX3_init_12 : decode cX3_init 12 = .ok (.putfield 12, 3) := by decide +kernel
theorem dX3_init_15 : decode cX3_init 15 = .ok (.aload_n 0, 1) := by decide +kernel
theorem dX3_init_16 : decode cX3_init 16 = .ok (.new 16, 3) := by decide +kernel
theorem dX3_init_19 : decode cX3_init 19 = .ok (.dup, 1) := by decide +kernel
theorem dX3_init_20 : decode cX3_init 20 = .ok (.aload_n 0, 1) := by decide +kernel
theorem dX3_init_21 : decode cX3_init 21 = .ok (.getfield 12, 3) := by decide +kernel
theorem dX3_init_24 : decode cX3_init 24 = .ok (.invokespecial 18, 3) := by decide +kernel
theorem dX3_init_27 : decode cX3_init 27 = .ok (.putfield 21, 3) := by decide +kernel
theorem dX3_init_30 : decode cX3_init 30 = .ok (.aload_n 0, 1) := by decide +kernel
theorem dX3_init_31 : decode cX3_init 31 = .ok (.new 16, 3) := by decide +kernel
theorem dX3_init_34 : decode cX3_init 34 = .ok (.dup, 1) := by decide +kernel
theorem dX3_init_35 : decode cX3_init 35 = .ok (.aload_n 0, 1) := by decide +kernel
theorem dX3_init_36 : decode cX3_init 36 = .ok (.getfield 12, 3) := by decide +kernel
theorem dX3_init_39 : decode cX3_init 39 = .ok (.invokespecial 18, 3) := by decide +kernel
theorem dX3_init_42 : decode cX3_init 42 = .ok (.putfield 25, 3) := by decide +kernel
theorem dX3_init_45 : decode cX3_init 45 = .ok (.return_, 1) := by decide +kernel
set_option maxRecDepth 20000 in
theorem ggX3_setDeaths_X3_isAge : GoodIn wsX3_setDeaths wsX3_isAge := goodIn_r _ [9] (by decide +kernel) (by decide +kernel)
set_option maxRecDepth 20000 in
theorem gX3_setDeaths_X3_isAge : GoodIn wsX3_setDeaths (va_wsS RX3 28 yX3_isAge wsX3_isAge) := goodIn_app (goodIn_of _ (by decide +kernel)) ggX3_setDeaths_X3_isAge
set_option maxRecDepth 20000 in
theorem ggX3_setDeaths_X1_deathsAt : GoodIn wsX3_setDeaths wsX1_deathsAt := goodIn_r _ [14, 15, 7, 8, 9, 23, 24] (by decide +kernel) (by decide +kernel)
set_option maxRecDepth 20000 in
theorem gX3_setDeaths_X1_deathsAt : GoodIn wsX3_setDeaths (wsV RX3 44 RX1 yX1_deathsAt wsX1_deathsAt) := goodIn_app (goodIn_of _ (by decide +kernel)) ggX3_setDeaths_X1_deathsAt
set_option maxRecDepth 20000 in
theorem ggX3_setDeaths_X1_changeDeaths : GoodIn wsX3_setDeaths wsX1_changeDeaths := goodIn_r _ [19, 15, 7, 8, 9, 23, 24] (by decide +kernel) (by decide +kernel)
set_option maxRecDepth 20000 in
theorem gX3_setDeaths_X1_changeDeaths : GoodIn wsX3_setDeaths (wsV RX3 48 RX1 yX1_changeDeaths wsX1_changeDeaths) := goodIn_app (goodIn_of _ (by decide +kernel)) ggX3_setDeaths_X1_changeDeaths
theorem dX3_setDeaths_0 : decode cX3_setDeaths 0 = .ok (.iload_n 1, 1) := by decide +kernel
theorem dX3_setDeaths_1 : decode cX3_setDeaths 1 = .ok (.invokestatic 28, 3) := by decide +kernel
theorem dX3_setDeaths_4 : decode cX3_setDeaths 4 = .ok (.ifCond .ne 13, 3) := by decide +kernel
theorem dX3_setDeaths_7 : decode cX3_setDeaths 7 = .ok (.new 32, 3) := by decide +kernel
theorem dX3_setDeaths_10 : decode cX3_setDeaths 10 = .ok (.dup, 1) := by decide +kernel
theorem dX3_setDeaths_11 : decode cX3_setDeaths 11 = .ok (.ldc 34, 2) := by decide +kernel
theorem dX3_setDeaths_13 : decode cX3_setDeaths 13 = .ok (.invokespecial 36, 3) := by decide +kernel
theorem dX3_setDeaths_16 : decode cX3_setDeaths 16 = .ok (.athrow, 1) := by decide +kernel
theorem dX3_setDeaths_17 : decode cX3_setDeaths 17 = .ok (.iload_n 2, 1) := by decide +kernel
theorem dX3_setDeaths_18 : decode cX3_setDeaths 18 = .ok (.ifCond .lt 10, 3) := by decide +kernel
theorem dX3_setDeaths_21 : decode cX3_setDeaths 21 = .ok (.iload_n 2, 1) := by decide +kernel
theorem dX3_setDeaths_22 : decode cX3_setDeaths 22 = .ok (.sipush 1000, 3) := by decide +kernel
theorem dX3_setDeaths_25 : decode cX3_setDeaths 25 = .ok (.if_icmp .le 13, 3) := by decide +kernel
theorem dX3_setDeaths_28 : decode cX3_setDeaths 28 = .ok (.new 39, 3) := by decide +kernel
theorem dX3_setDeaths_31 : decode cX3_setDeaths 31 = .ok (.dup, 1) := by decide +kernel
theorem dX3_setDeaths_32 : decode cX3_setDeaths 32 = .ok (.ldc 41, 2) := by decide +kernel
theorem dX3_setDeaths_34 : decode cX3_setDeaths 34 = .ok (.invokespecial 43, 3) := by decide +kernel
theorem dX3_setDeaths_37 : decode cX3_setDeaths 37 = .ok (.athrow, 1) := by decide +kernel
theorem dX3_setDeaths_38 : decode cX3_setDeaths 38 = .ok (.aload_n 0, 1) := by decide +kernel
theorem dX3_setDeaths_39 : decode cX3_setDeaths 39 = .ok (.getfield 12, 3) := by decide +kernel
theorem dX3_setDeaths_42 : decode cX3_setDeaths 42 = .ok (.iload_n 1, 1) := by decide +kernel
theorem dX3_setDeaths_43 : decode cX3_setDeaths 43 = .ok (.invokevirtual 44, 3) := by decide +kernel
theorem dX3_setDeaths_46 : decode cX3_setDeaths 46 = .ok (.istore_n 3, 1) := by decide +kernel
theorem dX3_setDeaths_47 : decode cX3_setDeaths 47 = .ok (.aload_n 0, 1) := by decide +kernel
theorem dX3_setDeaths_48 : decode cX3_setDeaths 48 = .ok (.getfield 12, 3) := by decide +kernel

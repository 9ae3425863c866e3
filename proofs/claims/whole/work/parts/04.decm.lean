theorem dX3_init_0 : decode cX3_init 0 = .ok (.aload_n 0, 1) := by decide +kernel
theorem dX3_init_1 : decode cX3_init 1 = .ok (.invokespecial 1, 3) := by decide +kernel
theorem dX3_init_4 : decode cX3_init 4 = .ok (.aload_n 0, 1) := by decide +kernel
theorem dX3_init_5 : decode cX3_init 5 = .ok (.iconst 0, 1) := by decide +kernel
theorem dX3_init_6 : decode cX3_init 6 = .ok (.putfield 7, 3) := by decide +kernel
theorem dX3_init_9 : decode cX3_init 9 = .ok (.aload_n 0, 1) := by decide +kernel
theorem dX3_init_10 : decode cX3_init 10 = .ok (.iconst 4, 1) := by decide +kernel
theorem dX3_init_11 : decode cX3_init 11 = .ok (.newarray .int, 2) := by decide +kernel
theorem dX3_init_13 : decode cX3_init 13 = .ok (.putfield 13, 3) := by decide +kernel
theorem dX3_init_16 : decode cX3_init 16 = .ok (.aload_n 0, 1) := by decide +kernel
theorem dX3_init_17 : decode cX3_init 17 = .ok (.bipush 32, 2) := by decide +kernel
theorem dX3_init_19 : decode cX3_init 19 = .ok (.newarray .int, 2) := by decide +kernel
theorem dX3_init_21 : decode cX3_init 21 = .ok (.putfield 17, 3) := by decide +kernel
theorem dX3_init_24 : decode cX3_init 24 = .ok (.aload_n 0, 1) := by decide +kernel
theorem dX3_init_25 : decode cX3_init 25 = .ok (.bipush 32, 2) := by decide +kernel
theorem dX3_init_27 : decode cX3_init 27 = .ok (.newarray .int, 2) := by decide +kernel
theorem dX3_init_29 : decode cX3_init 29 = .ok (.putfield 20, 3) := by decide +kernel
theorem dX3_init_32 : decode cX3_init 32 = .ok (.aload_n 0, 1) := by decide +kernel
theorem dX3_init_33 : decode cX3_init 33 = .ok (.bipush 32, 2) := by decide +kernel
theorem dX3_init_35 : decode cX3_init 35 = .ok (.newarray .int, 2) := by decide +kernel
theorem dX3_init_37 : decode cX3_init 37 = .ok (.putfield 23, 3) := by decide +kernel
theorem dX3_init_40 : decode cX3_init 40 = .ok (.aload_n 0, 1) := by decide +kernel
theorem dX3_init_41 : decode cX3_init 41 = .ok (.iconst 0, 1) := by decide +kernel
theorem dX3_init_42 : decode cX3_init 42 = .ok (.putfield 26, 3) := by decide +kernel
theorem dX3_init_45 : decode cX3_init 45 = .ok (.aload_n 0, 1) := by decide +kernel
theorem dX3_init_46 : decode cX3_init 46 = .ok (.bipush 12, 2) := by decide +kernel
theorem dX3_init_48 : decode cX3_init 48 = .ok (.newarray .int, 2) := by decide +kernel
theorem dX3_init_50 : decode cX3_init 50 = .ok (.putfield 29, 3) := by decide +kernel
theorem dX3_init_53 : decode cX3_init 53 = .ok (.aload_n 0, 1) := by decide +kernel
theorem dX3_init_54 : decode cX3_init 54 = .ok (.bipush 6, 2) := by decide +kernel
theorem dX3_init_56 : decode cX3_init 56 = .ok (.newarray .long, 2) := by decide +kernel
theorem dX3_init_58 : decode cX3_init 58 = .ok (.putfield 32, 3) := by decide +kernel
theorem dX3_init_61 : decode cX3_init 61 = .ok (.aload_n 0, 1) := by decide +kernel
theorem dX3_init_62 : decode cX3_init 62 = .ok (.lconst 1, 1) := by decide +kernel
theorem dX3_init_63 : decode cX3_init 63 = .ok (.putfield 36, 3) := by decide +kernel
theorem dX3_init_66 : decode cX3_init 66 = .ok (.return_, 1) := by decide +kernel
theorem dX3_in_0 : decode cX3_in 0 = .ok (.iload_n 1, 1) := by decide +kernel
theorem dX3_in_1 : decode cX3_in 1 = .ok (.iload_n 2, 1) := by decide +kernel
theorem dX3_in_2 : decode cX3_in 2 = .ok (.if_icmp .lt 12, 3) := by decide +kernel
theorem dX3_in_5 : decode cX3_in 5 = .ok (.iload_n 1, 1) := by decide +kernel
theorem dX3_in_6 : decode cX3_in 6 = .ok (.iload_n 3, 1) := by decide +kernel
theorem dX3_in_7 : decode cX3_in 7 = .ok (.if_icmp .gt 7, 3) := by decide +kernel
theorem dX3_in_10 : decode cX3_in 10 = .ok (.iconst 1, 1) := by decide +kernel
theorem dX3_in_11 : decode cX3_in 11 = .ok (.goto 4, 3) := by decide +kernel
theorem dX3_in_14 : decode cX3_in 14 = .ok (.iconst 0, 1) := by decide +kernel
theorem dX3_in_15 : decode cX3_in 15 = .ok (.ireturn, 1) := by decide +kernel
set_option maxRecDepth 20000 in
theorem ggX3_isBench_X3_in : GoodIn wsX3_isBench wsX3_in := goodIn_r _ [6] (by decide +kernel) (by decide +kernel)
set_option maxRecDepth 20000 in
theorem gX3_isBench_X3_in : GoodIn wsX3_isBench (wsV RX3 40 RX3 yX3_in wsX3_in) := goodIn_app (goodIn_of _ (by decide +kernel)) ggX3_isBench_X3_in
theorem dX3_isBench_0 : decode cX3_isBench 0 = .ok (.aload_n 0, 1) := by decide +kernel
theorem dX3_isBench_1 : decode cX3_isBench 1 = .ok (.iload_n 1, 1) := by decide +kernel
theorem dX3_isBench_2 : decode cX3_isBench 2 = .ok (.iconst 0, 1) := by decide +kernel
theorem dX3_isBench_3 : decode cX3_isBench 3 = .ok (.aload_n 0, 1) := by decide +kernel
theorem dX3_isBench_4 : decode cX3_isBench 4 = .ok (.getfield 7, 3) := by decide +kernel
theorem dX3_isBench_7 : decode cX3_isBench 7 = .ok (.iconst 1, 1) := by decide +kernel
theorem dX3_isBench_8 : decode cX3_isBench 8 = .ok (.isub, 1) := by decide +kernel
theorem dX3_isBench_9 : decode cX3_isBench 9 = .ok (.invokevirtual 40, 3) := by decide +kernel
theorem dX3_isBench_12 : decode cX3_isBench 12 = .ok (.ireturn, 1) := by decide +kernel
set_option maxRecDepth 20000 in
theorem ggX3_isPart_X3_isBench : GoodIn wsX3_isPart wsX3_isBench := goodIn_r _ [6, 7, 8, 9, 10, 5, 11, 12, 13, 14, 15, 16, 17, 18, 19, 20] (by decide +kernel) (by decide +kernel)
set_option maxRecDepth 20000 in
theorem gX3_isPart_X3_isBench : GoodIn wsX3_isPart (wsV RX3 44 RX3 yX3_isBench wsX3_isBench) := goodIn_app (goodIn_of _ (by decide +kernel)) ggX3_isPart_X3_isBench
set_option maxRecDepth 20000 in
theorem ggX3_isPart_X3_in : GoodIn wsX3_isPart wsX3_in := goodIn_r _ [11] (by decide +kernel) (by decide +kernel)
set_option maxRecDepth 20000 in
theorem gX3_isPart_X3_in : GoodIn wsX3_isPart (wsV RX3 40 RX3 yX3_in wsX3_in) := goodIn_app (goodIn_of _ (by decide +kernel)) ggX3_isPart_X3_in
theorem dX3_isPart_0 : decode cX3_isPart 0 = .ok (.aload_n 0, 1) := by decide +kernel
theorem dX3_isPart_1 : decode cX3_isPart 1 = .ok (.iload_n 1, 1) := by decide +kernel
theorem dX3_isPart_2 : decode cX3_isPart 2 = .ok (.invokevirtual 44, 3) := by decide +kernel
theorem dX3_isPart_5 : decode cX3_isPart 5 = .ok (.ifCond .eq 24, 3) := by decide +kernel
theorem dX3_isPart_8 : decode cX3_isPart 8 = .ok (.aload_n 0, 1) := by decide +kernel
theorem dX3_isPart_9 : decode cX3_isPart 9 = .ok (.iload_n 2, 1) := by decide +kernel
theorem dX3_isPart_10 : decode cX3_isPart 10 = .ok (.iconst 0, 1) := by decide +kernel
theorem dX3_isPart_11 : decode cX3_isPart 11 = .ok (.aload_n 0, 1) := by decide +kernel
theorem dX3_isPart_12 : decode cX3_isPart 12 = .ok (.getfield 13, 3) := by decide +kernel
theorem dX3_isPart_15 : decode cX3_isPart 15 = .ok (.iload_n 1, 1) := by decide +kernel
theorem dX3_isPart_16 : decode cX3_isPart 16 = .ok (.iaload, 1) := by decide +kernel
theorem dX3_isPart_17 : decode cX3_isPart 17 = .ok (.iconst 1, 1) := by decide +kernel
theorem dX3_isPart_18 : decode cX3_isPart 18 = .ok (.isub, 1) := by decide +kernel
theorem dX3_isPart_19 : decode cX3_isPart 19 = .ok (.invokevirtual 40, 3) := by decide +kernel
theorem dX3_isPart_22 : decode cX3_isPart 22 = .ok (.ifCond .eq 7, 3) := by decide +kernel
theorem dX3_isPart_25 : decode cX3_isPart 25 = .ok (.iconst 1, 1) := by decide +kernel
theorem dX3_isPart_26 : decode cX3_isPart 26 = .ok (.goto 4, 3) := by decide +kernel
theorem dX3_isPart_29 : decode cX3_isPart 29 = .ok (.iconst 0, 1) := by decide +kernel
theorem dX3_isPart_30 : decode cX3_isPart 30 = .ok (.ireturn, 1) := by decide +kernel
theorem dX3_isWay_0 : decode cX3_isWay 0 = .ok (.iload_n 1, 1) := by decide +kernel
theorem dX3_isWay_1 : decode cX3_isWay 1 = .ok (.ifCond .eq 8, 3) := by decide +kernel
theorem dX3_isWay_4 : decode cX3_isWay 4 = .ok (.iload_n 1, 1) := by decide +kernel
theorem dX3_isWay_5 : decode cX3_isWay 5 = .ok (.iconst 1, 1) := by decide +kernel
theorem dX3_isWay_6 : decode cX3_isWay 6 = .ok (.if_icmp .ne 7, 3) := by decide +kernel
theorem dX3_isWay_9 : decode cX3_isWay 9 = .ok (.iconst 1, 1) := by decide +kernel
theorem dX3_isWay_10 : decode cX3_isWay 10 = .ok (.goto 4, 3) := by decide +kernel
theorem dX3_isWay_13 : decode cX3_isWay 13 = .ok (.iconst 0, 1) := by decide +kernel
theorem dX3_isWay_14 : decode cX3_isWay 14 = .ok (.ireturn, 1) := by decide +kernel
set_option maxRecDepth 20000 in
theorem ggX3_isBent_X3_in : GoodIn wsX3_isBent wsX3_in := goodIn_r _ [5] (by decide +kernel) (by decide +kernel)
set_option maxRecDepth 20000 in
theorem gX3_isBent_X3_in : GoodIn wsX3_isBent (wsV RX3 40 RX3 yX3_in wsX3_in) := goodIn_app (goodIn_of _ (by decide +kernel)) ggX3_isBent_X3_in
theorem dX3_isBent_0 : decode cX3_isBent 0 = .ok (.aload_n 0, 1) := by decide +kernel
theorem dX3_isBent_1 : decode cX3_isBent 1 = .ok (.iload_n 1, 1) := by decide +kernel
theorem dX3_isBent_2 : decode cX3_isBent 2 = .ok (.bipush (-9), 2) := by decide +kernel
theorem dX3_isBent_4 : decode cX3_isBent 4 = .ok (.bipush 9, 2) := by decide +kernel
theorem dX3_isBent_6 : decode cX3_isBent 6 = .ok (.invokevirtual 40, 3) := by decide +kernel
theorem dX3_isBent_9 : decode cX3_isBent 9 = .ok (.ifCond .eq 11, 3) := by decide +kernel
theorem dX3_isBent_12 : decode cX3_isBent 12 = .ok (.iload_n 1, 1) := by decide +kernel
theorem dX3_isBent_13 : decode cX3_isBent 13 = .ok (.ifCond .eq 7, 3) := by decide +kernel
theorem dX3_isBent_16 : decode cX3_isBent 16 = .ok (.iconst 1, 1) := by decide +kernel
theorem dX3_isBent_17 : decode cX3_isBent 17 = .ok (.goto 4, 3) := by decide +kernel
theorem dX3_isBent_20 : decode cX3_isBent 20 = .ok (.iconst 0, 1) := by decide +kernel
theorem dX3_isBent_21 : decode cX3_isBent 21 = .ok (.ireturn, 1) := by decide +kernel
set_option maxRecDepth 20000 in
theorem ggX3_isGood_X3_in : GoodIn wsX3_isGood wsX3_in := goodIn_r _ [5] (by decide +kernel) (by decide +kernel)
set_option maxRecDepth 20000 in
theorem gX3_isGood_X3_in : GoodIn wsX3_isGood (wsV RX3 40 RX3 yX3_in wsX3_in) := goodIn_app (goodIn_of _ (by decide +kernel)) ggX3_isGood_X3_in
set_option maxRecDepth 20000 in
theorem ggX3_isGood_X3_isBent : GoodIn wsX3_isGood wsX3_isBent := goodIn_r _ [9, 1, 2, 3, 4, 5] (by decide +kernel) (by decide +kernel)
set_option maxRecDepth 20000 in
theorem gX3_isGood_X3_isBent : GoodIn wsX3_isGood (wsV RX3 48 RX3 yX3_isBent wsX3_isBent) := goodIn_app (goodIn_of _ (by decide +kernel)) ggX3_isGood_X3_isBent
theorem dX3_isGood_0 : decode cX3_isGood 0 = .ok (.iload_n 1, 1) := by decide +kernel
theorem dX3_isGood_1 : decode cX3_isGood 1 = .ok (.tableswitch 139 0 4 #[35, 56, 74, 96, 117], 35) := by decide +kernel
theorem dX3_isGood_36 : decode cX3_isGood 36 = .ok (.aload_n 0, 1) := by decide +kernel
theorem dX3_isGood_37 : decode cX3_isGood 37 = .ok (.iload_n 2, 1) := by decide +kernel
theorem dX3_isGood_38 : decode cX3_isGood 38 = .ok (.iconst 0, 1) := by decide +kernel
theorem dX3_isGood_39 : decode cX3_isGood 39 = .ok (.bipush 20, 2) := by decide +kernel
theorem dX3_isGood_41 : decode cX3_isGood 41 = .ok (.invokevirtual 40, 3) := by decide +kernel
theorem dX3_isGood_44 : decode cX3_isGood 44 = .ok (.ifCond .eq 11, 3) := by decide +kernel
theorem dX3_isGood_47 : decode cX3_isGood 47 = .ok (.iload_n 3, 1) := by decide +kernel
theorem dX3_isGood_48 : decode cX3_isGood 48 = .ok (.ifCond .ne 7, 3) := by decide +kernel
theorem dX3_isGood_51 : decode cX3_isGood 51 = .ok (.iconst 1, 1) := by decide +kernel
theorem dX3_isGood_52 : decode cX3_isGood 52 = .ok (.goto 4, 3) := by decide +kernel
theorem dX3_isGood_55 : decode cX3_isGood 55 = .ok (.iconst 0, 1) := by decide +kernel
theorem dX3_isGood_56 : decode cX3_isGood 56 = .ok (.ireturn, 1) := by decide +kernel
theorem dX3_isGood_57 : decode cX3_isGood 57 = .ok (.aload_n 0, 1) := by decide +kernel
theorem dX3_isGood_58 : decode cX3_isGood 58 = .ok (.iload_n 2, 1) := by decide +kernel
theorem dX3_isGood_59 : decode cX3_isGood 59 = .ok (.invokevirtual 48, 3) := by decide +kernel
theorem dX3_isGood_62 : decode cX3_isGood 62 = .ok (.ifCond .eq 11, 3) := by decide +kernel
theorem dX3_isGood_65 : decode cX3_isGood 65 = .ok (.iload_n 3, 1) := by decide +kernel
theorem dX3_isGood_66 : decode cX3_isGood 66 = .ok (.ifCond .ne 7, 3) := by decide +kernel
theorem dX3_isGood_69 : decode cX3_isGood 69 = .ok (.iconst 1, 1) := by decide +kernel
theorem dX3_isGood_70 : decode cX3_isGood 70 = .ok (.goto 4, 3) := by decide +kernel
theorem dX3_isGood_73 : decode cX3_isGood 73 = .ok (.iconst 0, 1) := by decide +kernel
theorem dX3_isGood_74 : decode cX3_isGood 74 = .ok (.ireturn, 1) := by decide +kernel
theorem dX3_isGood_75 : decode cX3_isGood 75 = .ok (.aload_n 0, 1) := by decide +kernel
theorem dX3_isGood_76 : decode cX3_isGood 76 = .ok (.iload_n 2, 1) := by decide +kernel
theorem dX3_isGood_77 : decode cX3_isGood 77 = .ok (.invokevirtual 48, 3) := by decide +kernel
theorem dX3_isGood_80 : decode cX3_isGood 80 = .ok (.ifCond .eq 15, 3) := by decide +kernel
theorem dX3_isGood_83 : decode cX3_isGood 83 = .ok (.aload_n 0, 1) := by decide +kernel
theorem dX3_isGood_84 : decode cX3_isGood 84 = .ok (.iload_n 3, 1) := by decide +kernel
theorem dX3_isGood_85 : decode cX3_isGood 85 = .ok (.invokevirtual 48, 3) := by decide +kernel
theorem dX3_isGood_88 : decode cX3_isGood 88 = .ok (.ifCond .eq 7, 3) := by decide +kernel
theorem dX3_isGood_91 : decode cX3_isGood 91 = .ok (.iconst 1, 1) := by decide +kernel
theorem dX3_isGood_92 : decode cX3_isGood 92 = .ok (.goto 4, 3) := by decide +kernel
theorem dX3_isGood_95 : decode cX3_isGood 95 = .ok (.iconst 0, 1) := by decide +kernel
theorem dX3_isGood_96 : decode cX3_isGood 96 = .ok (.ireturn, 1) := by decide +kernel
theorem dX3_isGood_97 : decode cX3_isGood 97 = .ok (.aload_n 0, 1) := by decide +kernel
theorem dX3_isGood_98 : decode cX3_isGood 98 = .ok (.iload_n 2, 1) := by decide +kernel
theorem dX3_isGood_99 : decode cX3_isGood 99 = .ok (.bipush (-3), 2) := by decide +kernel
theorem dX3_isGood_101 : decode cX3_isGood 101 = .ok (.iconst 3, 1) := by decide +kernel
theorem dX3_isGood_102 : decode cX3_isGood 102 = .ok (.invokevirtual 40, 3) := by decide +kernel
theorem dX3_isGood_105 : decode cX3_isGood 105 = .ok (.ifCond .eq 11, 3) := by decide +kernel
theorem dX3_isGood_108 : decode cX3_isGood 108 = .ok (.iload_n 3, 1) := by decide +kernel
theorem dX3_isGood_109 : decode cX3_isGood 109 = .ok (.ifCond .ne 7, 3) := by decide +kernel
theorem dX3_isGood_112 : decode cX3_isGood 112 = .ok (.iconst 1, 1) := by decide +kernel
theorem dX3_isGood_113 : decode cX3_isGood 113 = .ok (.goto 4, 3) := by decide +kernel
theorem dX3_isGood_116 : decode cX3_isGood 116 = .ok (.iconst 0, 1) := by decide +kernel
theorem dX3_isGood_117 : decode cX3_isGood 117 = .ok (.ireturn, 1) := by decide +kernel
theorem dX3_isGood_118 : decode cX3_isGood 118 = .ok (.aload_n 0, 1) := by decide +kernel
theorem dX3_isGood_119 : decode cX3_isGood 119 = .ok (.iload_n 2, 1) := by decide +kernel
theorem dX3_isGood_120 : decode cX3_isGood 120 = .ok (.iconst 1, 1) := by decide +kernel
theorem dX3_isGood_121 : decode cX3_isGood 121 = .ok (.sipush 1000, 3) := by decide +kernel
theorem dX3_isGood_124 : decode cX3_isGood 124 = .ok (.invokevirtual 40, 3) := by decide +kernel
theorem dX3_isGood_127 : decode cX3_isGood 127 = .ok (.ifCond .eq 11, 3) := by decide +kernel
theorem dX3_isGood_130 : decode cX3_isGood 130 = .ok (.iload_n 3, 1) := by decide +kernel
theorem dX3_isGood_131 : decode cX3_isGood 131 = .ok (.ifCond .ne 7, 3) := by decide +kernel
theorem dX3_isGood_134 : decode cX3_isGood 134 = .ok (.iconst 1, 1) := by decide +kernel
theorem dX3_isGood_135 : decode cX3_isGood 135 = .ok (.goto 4, 3) := by decide +kernel
theorem dX3_isGood_138 : decode cX3_isGood 138 = .ok (.iconst 0, 1) := by decide +kernel
theorem dX3_isGood_139 : decode cX3_isGood 139 = .ok (.ireturn, 1) := by decide +kernel
theorem dX3_isGood_140 : decode cX3_isGood 140 = .ok (.iconst 0, 1) := by decide +kernel
theorem dX3_isGood_141 : decode cX3_isGood 141 = .ok (.ireturn, 1) := by decide +kernel
theorem dX3_bench_0 : decode cX3_bench 0 = .ok (.aload_n 0, 1) := by decide +kernel
theorem dX3_bench_1 : decode cX3_bench 1 = .ok (.getfield 7, 3) := by decide +kernel
theorem dX3_bench_4 : decode cX3_bench 4 = .ok (.iconst 4, 1) := by decide +kernel
theorem dX3_bench_5 : decode cX3_bench 5 = .ok (.if_icmp .ne 6, 3) := by decide +kernel
theorem dX3_bench_8 : decode cX3_bench 8 = .ok (.bipush (-4), 2) := by decide +kernel
theorem dX3_bench_10 : decode cX3_bench 10 = .ok (.ireturn, 1) := by decide +kernel
theorem dX3_bench_11 : decode cX3_bench 11 = .ok (.aload_n 0, 1) := by decide +kernel
theorem dX3_bench_12 : decode cX3_bench 12 = .ok (.getfield 13, 3) := by decide +kernel
theorem dX3_bench_15 : decode cX3_bench 15 = .ok (.aload_n 0, 1) := by decide +kernel
theorem dX3_bench_16 : decode cX3_bench 16 = .ok (.getfield 7, 3) := by decide +kernel
theorem dX3_bench_19 : decode cX3_bench 19 = .ok (.iconst 0, 1) := by decide +kernel
theorem dX3_bench_20 : decode cX3_bench 20 = .ok (.iastore, 1) := by decide +kernel
theorem dX3_bench_21 : decode cX3_bench 21 = .ok (.aload_n 0, 1) := by decide +kernel
theorem dX3_bench_22 : decode cX3_bench 22 = .ok (.dup, 1) := by decide +kernel
theorem dX3_bench_23 : decode cX3_bench 23 = .ok (.getfield 7, 3) := by decide +kernel
theorem dX3_bench_26 : decode cX3_bench 26 = .ok (.iconst 1, 1) := by decide +kernel
theorem dX3_bench_27 : decode cX3_bench 27 = .ok (.iadd, 1) := by decide +kernel
theorem dX3_bench_28 : decode cX3_bench 28 = .ok (.putfield 7, 3) := by decide +kernel
theorem dX3_bench_31 : decode cX3_bench 31 = .ok (.aload_n 0, 1) := by decide +kernel
theorem dX3_bench_32 : decode cX3_bench 32 = .ok (.getfield 7, 3) := by decide +kernel
theorem dX3_bench_35 : decode cX3_bench 35 = .ok (.iconst 1, 1) := by decide +kernel
theorem dX3_bench_36 : decode cX3_bench 36 = .ok (.isub, 1) := by decide +kernel
theorem dX3_bench_37 : decode cX3_bench 37 = .ok (.ireturn, 1) := by decide +kernel
theorem dX3_bent_0 : decode cX3_bent 0 = .ok (.iconst 0, 1) := by decide +kernel
theorem dX3_bent_1 : decode cX3_bent 1 = .ok (.istore_n 2, 1) := by decide +kernel
theorem dX3_bent_2 : decode cX3_bent 2 = .ok (.iconst 0, 1) := by decide +kernel
theorem dX3_bent_3 : decode cX3_bent 3 = .ok (.istore_n 3, 1) := by decide +kernel
theorem dX3_bent_4 : decode cX3_bent 4 = .ok (.iload_n 3, 1) := by decide +kernel
theorem dX3_bent_5 : decode cX3_bent 5 = .ok (.aload_n 0, 1) := by decide +kernel
theorem dX3_bent_6 : decode cX3_bent 6 = .ok (.getfield 13, 3) := by decide +kernel
theorem dX3_bent_9 : decode cX3_bent 9 = .ok (.iload_n 1, 1) := by decide +kernel
theorem dX3_bent_10 : decode cX3_bent 10 = .ok (.iaload, 1) := by decide +kernel
theorem dX3_bent_11 : decode cX3_bent 11 = .ok (.if_icmp .ge 47, 3) := by decide +kernel
theorem dX3_bent_14 : decode cX3_bent 14 = .ok (.iload_n 2, 1) := by decide +kernel
theorem dX3_bent_15 : decode cX3_bent 15 = .ok (.aload_n 0, 1) := by decide +kernel
theorem dX3_bent_16 : decode cX3_bent 16 = .ok (.getfield 17, 3) := by decide +kernel
theorem dX3_bent_19 : decode cX3_bent 19 = .ok (.bipush 8, 2) := by decide +kernel
theorem dX3_bent_21 : decode cX3_bent 21 = .ok (.iload_n 1, 1) := by decide +kernel
theorem dX3_bent_22 : decode cX3_bent 22 = .ok (.imul, 1) := by decide +kernel
theorem dX3_bent_23 : decode cX3_bent 23 = .ok (.iload_n 3, 1) := by decide +kernel
theorem dX3_bent_24 : decode cX3_bent 24 = .ok (.iadd, 1) := by decide +kernel
theorem dX3_bent_25 : decode cX3_bent 25 = .ok (.iaload, 1) := by decide +kernel
theorem dX3_bent_26 : decode cX3_bent 26 = .ok (.iconst 1, 1) := by decide +kernel
theorem dX3_bent_27 : decode cX3_bent 27 = .ok (.if_icmp .eq 18, 3) := by decide +kernel
theorem dX3_bent_30 : decode cX3_bent 30 = .ok (.aload_n 0, 1) := by decide +kernel
theorem dX3_bent_31 : decode cX3_bent 31 = .ok (.getfield 17, 3) := by decide +kernel
theorem dX3_bent_34 : decode cX3_bent 34 = .ok (.bipush 8, 2) := by decide +kernel
theorem dX3_bent_36 : decode cX3_bent 36 = .ok (.iload_n 1, 1) := by decide +kernel
theorem dX3_bent_37 : decode cX3_bent 37 = .ok (.imul, 1) := by decide +kernel
theorem dX3_bent_38 : decode cX3_bent 38 = .ok (.iload_n 3, 1) := by decide +kernel
theorem dX3_bent_39 : decode cX3_bent 39 = .ok (.iadd, 1) := by decide +kernel
theorem dX3_bent_40 : decode cX3_bent 40 = .ok (.iaload, 1) := by decide +kernel
theorem dX3_bent_41 : decode cX3_bent 41 = .ok (.iconst 2, 1) := by decide +kernel
theorem dX3_bent_42 : decode cX3_bent 42 = .ok (.if_icmp .ne 7, 3) := by decide +kernel
theorem dX3_bent_45 : decode cX3_bent 45 = .ok (.iconst 1, 1) := by decide +kernel
theorem dX3_bent_46 : decode cX3_bent 46 = .ok (.goto 4, 3) := by decide +kernel
theorem dX3_bent_49 : decode cX3_bent 49 = .ok (.iconst 0, 1) := by decide +kernel
theorem dX3_bent_50 : decode cX3_bent 50 = .ok (.iadd, 1) := by decide +kernel
theorem dX3_bent_51 : decode cX3_bent 51 = .ok (.istore_n 2, 1) := by decide +kernel
theorem dX3_bent_52 : decode cX3_bent 52 = .ok (.iinc 3 1, 3) := by decide +kernel
theorem dX3_bent_55 : decode cX3_bent 55 = .ok (.goto (-51), 3) := by decide +kernel
theorem dX3_bent_58 : decode cX3_bent 58 = .ok (.iload_n 2, 1) := by decide +kernel
theorem dX3_bent_59 : decode cX3_bent 59 = .ok (.ireturn, 1) := by decide +kernel
theorem dX3_tilts_0 : decode cX3_tilts 0 = .ok (.iconst 0, 1) := by decide +kernel
theorem dX3_tilts_1 : decode cX3_tilts 1 = .ok (.istore_n 2, 1) := by decide +kernel
theorem dX3_tilts_2 : decode cX3_tilts 2 = .ok (.iconst 0, 1) := by decide +kernel
theorem dX3_tilts_3 : decode cX3_tilts 3 = .ok (.istore_n 3, 1) := by decide +kernel
theorem dX3_tilts_4 : decode cX3_tilts 4 = .ok (.iload_n 3, 1) := by decide +kernel
theorem dX3_tilts_5 : decode cX3_tilts 5 = .ok (.aload_n 0, 1) := by decide +kernel
theorem dX3_tilts_6 : decode cX3_tilts 6 = .ok (.getfield 13, 3) := by decide +kernel
theorem dX3_tilts_9 : decode cX3_tilts 9 = .ok (.iload_n 1, 1) := by decide +kernel
theorem dX3_tilts_10 : decode cX3_tilts 10 = .ok (.iaload, 1) := by decide +kernel
theorem dX3_tilts_11 : decode cX3_tilts 11 = .ok (.if_icmp .ge 32, 3) := by decide +kernel
theorem dX3_tilts_14 : decode cX3_tilts 14 = .ok (.iload_n 2, 1) := by decide +kernel
theorem dX3_tilts_15 : decode cX3_tilts 15 = .ok (.aload_n 0, 1) := by decide +kernel
theorem dX3_tilts_16 : decode cX3_tilts 16 = .ok (.getfield 17, 3) := by decide +kernel
theorem dX3_tilts_19 : decode cX3_tilts 19 = .ok (.bipush 8, 2) := by decide +kernel
theorem dX3_tilts_21 : decode cX3_tilts 21 = .ok (.iload_n 1, 1) := by decide +kernel
theorem dX3_tilts_22 : decode cX3_tilts 22 = .ok (.imul, 1) := by decide +kernel
theorem dX3_tilts_23 : decode cX3_tilts 23 = .ok (.iload_n 3, 1) := by decide +kernel
theorem dX3_tilts_24 : decode cX3_tilts 24 = .ok (.iadd, 1) := by decide +kernel
theorem dX3_tilts_25 : decode cX3_tilts 25 = .ok (.iaload, 1) := by decide +kernel
theorem dX3_tilts_26 : decode cX3_tilts 26 = .ok (.iconst 3, 1) := by decide +kernel
theorem dX3_tilts_27 : decode cX3_tilts 27 = .ok (.if_icmp .ne 7, 3) := by decide +kernel
theorem dX3_tilts_30 : decode cX3_tilts 30 = .ok (.iconst 1, 1) := by decide +kernel
theorem dX3_tilts_31 : decode cX3_tilts 31 = .ok (.goto 4, 3) := by decide +kernel
theorem dX3_tilts_34 : decode cX3_tilts 34 = .ok (.iconst 0, 1) := by decide +kernel
theorem dX3_tilts_35 : decode cX3_tilts 35 = .ok (.iadd, 1) := by decide +kernel
theorem dX3_tilts_36 : decode cX3_tilts 36 = .ok (.istore_n 2, 1) := by decide +kernel
theorem dX3_tilts_37 : decode cX3_tilts 37 = .ok (.iinc 3 1, 3) := by decide +kernel
theorem dX3_tilts_40 : decode cX3_tilts 40 = .ok (.goto (-36), 3) := by decide +kernel
theorem dX3_tilts_43 : decode cX3_tilts 43 = .ok (.iload_n 2, 1) := by decide +kernel
theorem dX3_tilts_44 : decode cX3_tilts 44 = .ok (.ireturn, 1) := by decide +kernel
theorem dX3_lay_0 : decode cX3_lay 0 = .ok (.aload_n 0, 1) := by decide +kernel
theorem dX3_lay_1 : decode cX3_lay 1 = .ok (.getfield 17, 3) := by decide +kernel
theorem dX3_lay_4 : decode cX3_lay 4 = .ok (.iload_n 1, 1) := by decide +kernel
theorem dX3_lay_5 : decode cX3_lay 5 = .ok (.iload_n 2, 1) := by decide +kernel
theorem dX3_lay_6 : decode cX3_lay 6 = .ok (.iastore, 1) := by decide +kernel
theorem dX3_lay_7 : decode cX3_lay 7 = .ok (.aload_n 0, 1) := by decide +kernel
theorem dX3_lay_8 : decode cX3_lay 8 = .ok (.getfield 20, 3) := by decide +kernel
theorem dX3_lay_11 : decode cX3_lay 11 = .ok (.iload_n 1, 1) := by decide +kernel
theorem dX3_lay_12 : decode cX3_lay 12 = .ok (.iload_n 3, 1) := by decide +kernel
theorem dX3_lay_13 : decode cX3_lay 13 = .ok (.iastore, 1) := by decide +kernel
theorem dX3_lay_14 : decode cX3_lay 14 = .ok (.aload_n 0, 1) := by decide +kernel
theorem dX3_lay_15 : decode cX3_lay 15 = .ok (.getfield 23, 3) := by decide +kernel
theorem dX3_lay_18 : decode cX3_lay 18 = .ok (.iload_n 1, 1) := by decide +kernel
theorem dX3_lay_19 : decode cX3_lay 19 = .ok (.iload 4, 2) := by decide +kernel
theorem dX3_lay_21 : decode cX3_lay 21 = .ok (.iastore, 1) := by decide +kernel
theorem dX3_lay_22 : decode cX3_lay 22 = .ok (.return_, 1) := by decide +kernel
set_option maxRecDepth 20000 in
theorem ggX3_put_X3_isBench : GoodIn wsX3_put wsX3_isBench := goodIn_r _ [9, 10, 11, 12, 13, 8, 14, 35, 36, 37, 38, 39, 40, 41, 42, 43] (by decide +kernel) (by decide +kernel)
set_option maxRecDepth 20000 in
theorem gX3_put_X3_isBench : GoodIn wsX3_put (wsV RX3 44 RX3 yX3_isBench wsX3_isBench) := goodIn_app (goodIn_of _ (by decide +kernel)) ggX3_put_X3_isBench
set_option maxRecDepth 20000 in
theorem ggX3_put_X3_in : GoodIn wsX3_put wsX3_in := goodIn_r _ [14] (by decide +kernel) (by decide +kernel)
set_option maxRecDepth 20000 in
theorem gX3_put_X3_in : GoodIn wsX3_put (wsV RX3 40 RX3 yX3_in wsX3_in) := goodIn_app (goodIn_of _ (by decide +kernel)) ggX3_put_X3_in
set_option maxRecDepth 20000 in
theorem ggX3_put_X3_isGood : GoodIn wsX3_put wsX3_isGood := goodIn_r _ [18, 11, 12, 13, 8, 14, 19, 20, 21, 22] (by decide +kernel) (by decide +kernel)
set_option maxRecDepth 20000 in
theorem gX3_put_X3_isGood : GoodIn wsX3_put (wsV RX3 51 RX3 yX3_isGood wsX3_isGood) := goodIn_app (goodIn_of _ (by decide +kernel)) ggX3_put_X3_isGood
set_option maxRecDepth 20000 in
theorem ggX3_put_X3_bent : GoodIn wsX3_put wsX3_bent := goodIn_r _ [26, 1, 2, 35, 36, 37, 38, 39, 40, 41, 42, 43] (by decide +kernel) (by decide +kernel)
set_option maxRecDepth 20000 in
theorem gX3_put_X3_bent : GoodIn wsX3_put (wsV RX3 54 RX3 yX3_bent wsX3_bent) := goodIn_app (goodIn_of _ (by decide +kernel)) ggX3_put_X3_bent
set_option maxRecDepth 20000 in
theorem ggX3_put_X3_tilts : GoodIn wsX3_put wsX3_tilts := goodIn_r _ [30, 1, 2, 35, 36, 37, 38, 39, 40, 41, 42, 43] (by decide +kernel) (by decide +kernel)
set_option maxRecDepth 20000 in
theorem gX3_put_X3_tilts : GoodIn wsX3_put (wsV RX3 58 RX3 yX3_tilts wsX3_tilts) := goodIn_app (goodIn_of _ (by decide +kernel)) ggX3_put_X3_tilts
set_option maxRecDepth 20000 in
theorem ggX3_put_X3_lay : GoodIn wsX3_put wsX3_lay := goodIn_r _ [34, 2, 3, 4, 35, 36, 37, 38, 39, 40, 41, 42, 43] (by decide +kernel) (by decide +kernel)
set_option maxRecDepth 20000 in
theorem gX3_put_X3_lay : GoodIn wsX3_put (wsV RX3 61 RX3 yX3_lay wsX3_lay) := goodIn_app (goodIn_of _ (by decide +kernel)) ggX3_put_X3_lay
theorem dX3_put_0 : decode cX3_put 0 = .ok (.aload_n 0, 1) := by decide +kernel
theorem dX3_put_1 : decode cX3_put 1 = .ok (.iload_n 1, 1) := by decide +kernel
theorem dX3_put_2 : decode cX3_put 2 = .ok (.invokevirtual 44, 3) := by decide +kernel
theorem dX3_put_5 : decode cX3_put 5 = .ok (.ifCond .eq 18, 3) := by decide +kernel
theorem dX3_put_8 : decode cX3_put 8 = .ok (.aload_n 0, 1) := by decide +kernel
theorem dX3_put_9 : decode cX3_put 9 = .ok (.iload_n 2, 1) := by decide +kernel
theorem dX3_put_10 : decode cX3_put 10 = .ok (.iconst 0, 1) := by decide +kernel
theorem dX3_put_11 : decode cX3_put 11 = .ok (.aload_n 0, 1) := by decide +kernel
theorem dX3_put_12 : decode cX3_put 12 = .ok (.getfield 13, 3) := by decide +kernel
theorem dX3_put_15 : decode cX3_put 15 = .ok (.iload_n 1, 1) := by decide +kernel
theorem dX3_put_16 : decode cX3_put 16 = .ok (.iaload, 1) := by decide +kernel
theorem dX3_put_17 : decode cX3_put 17 = .ok (.invokevirtual 40, 3) := by decide +kernel
theorem dX3_put_20 : decode cX3_put 20 = .ok (.ifCond .ne 5, 3) := by decide +kernel
theorem dX3_put_23 : decode cX3_put 23 = .ok (.iconst (-1), 1) := by decide +kernel
theorem dX3_put_24 : decode cX3_put 24 = .ok (.ireturn, 1) := by decide +kernel
theorem dX3_put_25 : decode cX3_put 25 = .ok (.aload_n 0, 1) := by decide +kernel
theorem dX3_put_26 : decode cX3_put 26 = .ok (.iload_n 3, 1) := by decide +kernel
theorem dX3_put_27 : decode cX3_put 27 = .ok (.iload 4, 2) := by decide +kernel
theorem dX3_put_29 : decode cX3_put 29 = .ok (.iload 5, 2) := by decide +kernel
theorem dX3_put_31 : decode cX3_put 31 = .ok (.invokevirtual 51, 3) := by decide +kernel
theorem dX3_put_34 : decode cX3_put 34 = .ok (.ifCond .ne 6, 3) := by decide +kernel
theorem dX3_put_37 : decode cX3_put 37 = .ok (.bipush (-2), 2) := by decide +kernel
theorem dX3_put_39 : decode cX3_put 39 = .ok (.ireturn, 1) := by decide +kernel
theorem dX3_put_40 : decode cX3_put 40 = .ok (.aload_n 0, 1) := by decide +kernel
theorem dX3_put_41 : decode cX3_put 41 = .ok (.getfield 13, 3) := by decide +kernel
theorem dX3_put_44 : decode cX3_put 44 = .ok (.iload_n 1, 1) := by decide +kernel
theorem dX3_put_45 : decode cX3_put 45 = .ok (.iaload, 1) := by decide +kernel
theorem dX3_put_46 : decode cX3_put 46 = .ok (.bipush 8, 2) := by decide +kernel
theorem dX3_put_48 : decode cX3_put 48 = .ok (.if_icmp .eq 36, 3) := by decide +kernel
theorem dX3_put_51 : decode cX3_put 51 = .ok (.iload_n 3, 1) := by decide +kernel
theorem dX3_put_52 : decode cX3_put 52 = .ok (.iconst 1, 1) := by decide +kernel
theorem dX3_put_53 : decode cX3_put 53 = .ok (.if_icmp .eq 8, 3) := by decide +kernel
theorem dX3_put_56 : decode cX3_put 56 = .ok (.iload_n 3, 1) := by decide +kernel
theorem dX3_put_57 : decode cX3_put 57 = .ok (.iconst 2, 1) := by decide +kernel
theorem dX3_put_58 : decode cX3_put 58 = .ok (.if_icmp .ne 12, 3) := by decide +kernel
theorem dX3_put_61 : decode cX3_put 61 = .ok (.aload_n 0, 1) := by decide +kernel
theorem dX3_put_62 : decode cX3_put 62 = .ok (.iload_n 1, 1) := by decide +kernel
theorem dX3_put_63 : decode cX3_put 63 = .ok (.invokevirtual 54, 3) := by decide +kernel
theorem dX3_put_66 : decode cX3_put 66 = .ok (.iconst 3, 1) := by decide +kernel
theorem dX3_put_67 : decode cX3_put 67 = .ok (.if_icmp .eq 17, 3) := by decide +kernel
theorem dX3_put_70 : decode cX3_put 70 = .ok (.iload_n 3, 1) := by decide +kernel
theorem dX3_put_71 : decode cX3_put 71 = .ok (.iconst 3, 1) := by decide +kernel
theorem dX3_put_72 : decode cX3_put 72 = .ok (.if_icmp .ne 15, 3) := by decide +kernel
theorem dX3_put_75 : decode cX3_put 75 = .ok (.aload_n 0, 1) := by decide +kernel
theorem dX3_put_76 : decode cX3_put 76 = .ok (.iload_n 1, 1) := by decide +kernel
theorem dX3_put_77 : decode cX3_put 77 = .ok (.invokevirtual 58, 3) := by decide +kernel
theorem dX3_put_80 : decode cX3_put 80 = .ok (.iconst 2, 1) := by decide +kernel
theorem dX3_put_81 : decode cX3_put 81 = .ok (.if_icmp .ne 6, 3) := by decide +kernel
theorem dX3_put_84 : decode cX3_put 84 = .ok (.bipush (-4), 2) := by decide +kernel
theorem dX3_put_86 : decode cX3_put 86 = .ok (.ireturn, 1) := by decide +kernel
theorem dX3_put_87 : decode cX3_put 87 = .ok (.bipush 8, 2) := by decide +kernel
theorem dX3_put_89 : decode cX3_put 89 = .ok (.iload_n 1, 1) := by decide +kernel
theorem dX3_put_90 : decode cX3_put 90 = .ok (.imul, 1) := by decide +kernel
theorem dX3_put_91 : decode cX3_put 91 = .ok (.aload_n 0, 1) := by decide +kernel
theorem dX3_put_92 : decode cX3_put 92 = .ok (.getfield 13, 3) := by decide +kernel
theorem dX3_put_95 : decode cX3_put 95 = .ok (.iload_n 1, 1) := by decide +kernel
theorem dX3_put_96 : decode cX3_put 96 = .ok (.iaload, 1) := by decide +kernel
theorem dX3_put_97 : decode cX3_put 97 = .ok (.iadd, 1) := by decide +kernel
theorem dX3_put_98 : decode cX3_put 98 = .ok (.istore 6, 2) := by decide +kernel
theorem dX3_put_100 : decode cX3_put 100 = .ok (.iload 6, 2) := by decide +kernel
theorem dX3_put_102 : decode cX3_put 102 = .ok (.bipush 8, 2) := by decide +kernel
theorem dX3_put_104 : decode cX3_put 104 = .ok (.iload_n 1, 1) := by decide +kernel
theorem dX3_put_105 : decode cX3_put 105 = .ok (.imul, 1) := by decide +kernel
theorem dX3_put_106 : decode cX3_put 106 = .ok (.iload_n 2, 1) := by decide +kernel
theorem dX3_put_107 : decode cX3_put 107 = .ok (.iadd, 1) := by decide +kernel
theorem dX3_put_108 : decode cX3_put 108 = .ok (.if_icmp .le 42, 3) := by decide +kernel
theorem dX3_put_111 : decode cX3_put 111 = .ok (.aload_n 0, 1) := by decide +kernel
theorem dX3_put_112 : decode cX3_put 112 = .ok (.iload 6, 2) := by decide +kernel
theorem dX3_put_114 : decode cX3_put 114 = .ok (.aload_n 0, 1) := by decide +kernel
theorem dX3_put_115 : decode cX3_put 115 = .ok (.getfield 17, 3) := by decide +kernel
theorem dX3_put_118 : decode cX3_put 118 = .ok (.iload 6, 2) := by decide +kernel
theorem dX3_put_120 : decode cX3_put 120 = .ok (.iconst 1, 1) := by decide +kernel
theorem dX3_put_121 : decode cX3_put 121 = .ok (.isub, 1) := by decide +kernel
theorem dX3_put_122 : decode cX3_put 122 = .ok (.iaload, 1) := by decide +kernel
theorem dX3_put_123 : decode cX3_put 123 = .ok (.aload_n 0, 1) := by decide +kernel
theorem dX3_put_124 : decode cX3_put 124 = .ok (.getfield 20, 3) := by decide +kernel
theorem dX3_put_127 : decode cX3_put 127 = .ok (.iload 6, 2) := by decide +kernel
theorem dX3_put_129 : decode cX3_put 129 = .ok (.iconst 1, 1) := by decide +kernel
theorem dX3_put_130 : decode cX3_put 130 = .ok (.isub, 1) := by decide +kernel
theorem dX3_put_131 : decode cX3_put 131 = .ok (.iaload, 1) := by decide +kernel
theorem dX3_put_132 : decode cX3_put 132 = .ok (.aload_n 0, 1) := by decide +kernel
theorem dX3_put_133 : decode cX3_put 133 = .ok (.getfield 23, 3) := by decide +kernel
theorem dX3_put_136 : decode cX3_put 136 = .ok (.iload 6, 2) := by decide +kernel
theorem dX3_put_138 : decode cX3_put 138 = .ok (.iconst 1, 1) := by decide +kernel
theorem dX3_put_139 : decode cX3_put 139 = .ok (.isub, 1) := by decide +kernel
theorem dX3_put_140 : decode cX3_put 140 = .ok (.iaload, 1) := by decide +kernel
theorem dX3_put_141 : decode cX3_put 141 = .ok (.invokevirtual 61, 3) := by decide +kernel
theorem dX3_put_144 : decode cX3_put 144 = .ok (.iinc 6 (-1), 3) := by decide +kernel
theorem dX3_put_147 : decode cX3_put 147 = .ok (.goto (-47), 3) := by decide +kernel
theorem dX3_put_150 : decode cX3_put 150 = .ok (.aload_n 0, 1) := by decide +kernel
theorem dX3_put_151 : decode cX3_put 151 = .ok (.bipush 8, 2) := by decide +kernel
theorem dX3_put_153 : decode cX3_put 153 = .ok (.iload_n 1, 1) := by decide +kernel
theorem dX3_put_154 : decode cX3_put 154 = .ok (.imul, 1) := by decide +kernel
theorem dX3_put_155 : decode cX3_put 155 = .ok (.iload_n 2, 1) := by decide +kernel
theorem dX3_put_156 : decode cX3_put 156 = .ok (.iadd, 1) := by decide +kernel
theorem dX3_put_157 : decode cX3_put 157 = .ok (.iload_n 3, 1) := by decide +kernel
theorem dX3_put_158 : decode cX3_put 158 = .ok (.iload 4, 2) := by decide +kernel
theorem dX3_put_160 : decode cX3_put 160 = .ok (.iload 5, 2) := by decide +kernel
theorem dX3_put_162 : decode cX3_put 162 = .ok (.invokevirtual 61, 3) := by decide +kernel
theorem dX3_put_165 : decode cX3_put 165 = .ok (.aload_n 0, 1) := by decide +kernel
theorem dX3_put_166 : decode cX3_put 166 = .ok (.getfield 13, 3) := by decide +kernel
theorem dX3_put_169 : decode cX3_put 169 = .ok (.iload_n 1, 1) := by decide +kernel
theorem dX3_put_170 : decode cX3_put 170 = .ok (.dup2, 1) := by decide +kernel
theorem dX3_put_171 : decode cX3_put 171 = .ok (.iaload, 1) := by decide +kernel
theorem dX3_put_172 : decode cX3_put 172 = .ok (.iconst 1, 1) := by decide +kernel
theorem dX3_put_173 : decode cX3_put 173 = .ok (.iadd, 1) := by decide +kernel
theorem dX3_put_174 : decode cX3_put 174 = .ok (.iastore, 1) := by decide +kernel
theorem dX3_put_175 : decode cX3_put 175 = .ok (.aload_n 0, 1) := by decide +kernel
theorem dX3_put_176 : decode cX3_put 176 = .ok (.getfield 13, 3) := by decide +kernel
theorem dX3_put_179 : decode cX3_put 179 = .ok (.iload_n 1, 1) := by decide +kernel
theorem dX3_put_180 : decode cX3_put 180 = .ok (.iaload, 1) := by decide +kernel
theorem dX3_put_181 : decode cX3_put 181 = .ok (.ireturn, 1) := by decide +kernel
set_option maxRecDepth 20000 in
theorem ggX3_take_X3_isPart : GoodIn wsX3_take wsX3_isPart := goodIn_r _ [9, 2, 10, 11, 12, 8, 13, 14, 15, 16, 17, 18, 23, 24, 25, 26, 27, 28, 29, 30, 31] (by decide +kernel) (by decide +kernel)
set_option maxRecDepth 20000 in
theorem gX3_take_X3_isPart : GoodIn wsX3_take (wsV RX3 65 RX3 yX3_isPart wsX3_isPart) := goodIn_app (goodIn_of _ (by decide +kernel)) ggX3_take_X3_isPart
set_option maxRecDepth 20000 in
theorem ggX3_take_X3_lay : GoodIn wsX3_take wsX3_lay := goodIn_r _ [22, 1, 3, 4, 23, 24, 25, 26, 27, 28, 29, 30, 31] (by decide +kernel) (by decide +kernel)
set_option maxRecDepth 20000 in
theorem gX3_take_X3_lay : GoodIn wsX3_take (wsV RX3 61 RX3 yX3_lay wsX3_lay) := goodIn_app (goodIn_of _ (by decide +kernel)) ggX3_take_X3_lay
theorem dX3_take_0 : decode cX3_take 0 = .ok (.aload_n 0, 1) := by decide +kernel
theorem dX3_take_1 : decode cX3_take 1 = .ok (.iload_n 1, 1) := by decide +kernel
theorem dX3_take_2 : decode cX3_take 2 = .ok (.iload_n 2, 1) := by decide +kernel
theorem dX3_take_3 : decode cX3_take 3 = .ok (.invokevirtual 65, 3) := by decide +kernel
theorem dX3_take_6 : decode cX3_take 6 = .ok (.ifCond .ne 5, 3) := by decide +kernel
theorem dX3_take_9 : decode cX3_take 9 = .ok (.iconst (-1), 1) := by decide +kernel
theorem dX3_take_10 : decode cX3_take 10 = .ok (.ireturn, 1) := by decide +kernel
theorem dX3_take_11 : decode cX3_take 11 = .ok (.aload_n 0, 1) := by decide +kernel
theorem dX3_take_12 : decode cX3_take 12 = .ok (.getfield 17, 3) := by decide +kernel
theorem dX3_take_15 : decode cX3_take 15 = .ok (.bipush 8, 2) := by decide +kernel
theorem dX3_take_17 : decode cX3_take 17 = .ok (.iload_n 1, 1) := by decide +kernel
theorem dX3_take_18 : decode cX3_take 18 = .ok (.imul, 1) := by decide +kernel
theorem dX3_take_19 : decode cX3_take 19 = .ok (.iload_n 2, 1) := by decide +kernel
theorem dX3_take_20 : decode cX3_take 20 = .ok (.iadd, 1) := by decide +kernel
theorem dX3_take_21 : decode cX3_take 21 = .ok (.iaload, 1) := by decide +kernel
theorem dX3_take_22 : decode cX3_take 22 = .ok (.istore_n 3, 1) := by decide +kernel
theorem dX3_take_23 : decode cX3_take 23 = .ok (.aload_n 0, 1) := by decide +kernel
theorem dX3_take_24 : decode cX3_take 24 = .ok (.getfield 13, 3) := by decide +kernel
theorem dX3_take_27 : decode cX3_take 27 = .ok (.iload_n 1, 1) := by decide +kernel
theorem dX3_take_28 : decode cX3_take 28 = .ok (.dup2, 1) := by decide +kernel
theorem dX3_take_29 : decode cX3_take 29 = .ok (.iaload, 1) := by decide +kernel
theorem dX3_take_30 : decode cX3_take 30 = .ok (.iconst 1, 1) := by decide +kernel
theorem dX3_take_31 : decode cX3_take 31 = .ok (.isub, 1) := by decide +kernel
theorem dX3_take_32 : decode cX3_take 32 = .ok (.iastore, 1) := by decide +kernel
theorem dX3_take_33 : decode cX3_take 33 = .ok (.bipush 8, 2) := by decide +kernel
theorem dX3_take_35 : decode cX3_take 35 = .ok (.iload_n 1, 1) := by decide +kernel
theorem dX3_take_36 : decode cX3_take 36 = .ok (.imul, 1) := by decide +kernel
theorem dX3_take_37 : decode cX3_take 37 = .ok (.iload_n 2, 1) := by decide +kernel
theorem dX3_take_38 : decode cX3_take 38 = .ok (.iadd, 1) := by decide +kernel
theorem dX3_take_39 : decode cX3_take 39 = .ok (.istore 4, 2) := by decide +kernel
theorem dX3_take_41 : decode cX3_take 41 = .ok (.iload 4, 2) := by decide +kernel
theorem dX3_take_43 : decode cX3_take 43 = .ok (.bipush 8, 2) := by decide +kernel
theorem dX3_take_45 : decode cX3_take 45 = .ok (.iload_n 1, 1) := by decide +kernel
theorem dX3_take_46 : decode cX3_take 46 = .ok (.imul, 1) := by decide +kernel
theorem dX3_take_47 : decode cX3_take 47 = .ok (.aload_n 0, 1) := by decide +kernel
theorem dX3_take_48 : decode cX3_take 48 = .ok (.getfield 13, 3) := by decide +kernel
theorem dX3_take_51 : decode cX3_take 51 = .ok (.iload_n 1, 1) := by decide +kernel
theorem dX3_take_52 : decode cX3_take 52 = .ok (.iaload, 1) := by decide +kernel
theorem dX3_take_53 : decode cX3_take 53 = .ok (.iadd, 1) := by decide +kernel
theorem dX3_take_54 : decode cX3_take 54 = .ok (.if_icmp .ge 42, 3) := by decide +kernel
theorem dX3_take_57 : decode cX3_take 57 = .ok (.aload_n 0, 1) := by decide +kernel
theorem dX3_take_58 : decode cX3_take 58 = .ok (.iload 4, 2) := by decide +kernel
theorem dX3_take_60 : decode cX3_take 60 = .ok (.aload_n 0, 1) := by decide +kernel
theorem dX3_take_61 : decode cX3_take 61 = .ok (.getfield 17, 3) := by decide +kernel
theorem dX3_take_64 : decode cX3_take 64 = .ok (.iload 4, 2) := by decide +kernel
theorem dX3_take_66 : decode cX3_take 66 = .ok (.iconst 1, 1) := by decide +kernel
theorem dX3_take_67 : decode cX3_take 67 = .ok (.iadd, 1) := by decide +kernel
theorem dX3_take_68 : decode cX3_take 68 = .ok (.iaload, 1) := by decide +kernel
theorem dX3_take_69 : decode cX3_take 69 = .ok (.aload_n 0, 1) := by decide +kernel
theorem dX3_take_70 : decode cX3_take 70 = .ok (.getfield 20, 3) := by decide +kernel
theorem dX3_take_73 : decode cX3_take 73 = .ok (.iload 4, 2) := by decide +kernel
theorem dX3_take_75 : decode cX3_take 75 = .ok (.iconst 1, 1) := by decide +kernel
theorem dX3_take_76 : decode cX3_take 76 = .ok (.iadd, 1) := by decide +kernel
theorem dX3_take_77 : decode cX3_take 77 = .ok (.iaload, 1) := by decide +kernel
theorem dX3_take_78 : decode cX3_take 78 = .ok (.aload_n 0, 1) := by decide +kernel
theorem dX3_take_79 : decode cX3_take 79 = .ok (.getfield 23, 3) := by decide +kernel
theorem dX3_take_82 : decode cX3_take 82 = .ok (.iload 4, 2) := by decide +kernel
theorem dX3_take_84 : decode cX3_take 84 = .ok (.iconst 1, 1) := by decide +kernel
theorem dX3_take_85 : decode cX3_take 85 = .ok (.iadd, 1) := by decide +kernel
theorem dX3_take_86 : decode cX3_take 86 = .ok (.iaload, 1) := by decide +kernel
theorem dX3_take_87 : decode cX3_take 87 = .ok (.invokevirtual 61, 3) := by decide +kernel
theorem dX3_take_90 : decode cX3_take 90 = .ok (.iinc 4 1, 3) := by decide +kernel
theorem dX3_take_93 : decode cX3_take 93 = .ok (.goto (-52), 3) := by decide +kernel
theorem dX3_take_96 : decode cX3_take 96 = .ok (.iload_n 3, 1) := by decide +kernel
theorem dX3_take_97 : decode cX3_take 97 = .ok (.ireturn, 1) := by decide +kernel
set_option maxRecDepth 20000 in
theorem ggX3_set_X3_isPart : GoodIn wsX3_set wsX3_isPart := goodIn_r _ [8, 9, 10, 11, 12, 7, 13, 14, 15, 16, 17, 18, 27, 28, 29, 30, 31, 32, 33, 34, 35] (by decide +kernel) (by decide +kernel)
set_option maxRecDepth 20000 in
theorem gX3_set_X3_isPart : GoodIn wsX3_set (wsV RX3 65 RX3 yX3_isPart wsX3_isPart) := goodIn_app (goodIn_of _ (by decide +kernel)) ggX3_set_X3_isPart
set_option maxRecDepth 20000 in
theorem ggX3_set_X3_isGood : GoodIn wsX3_set wsX3_isGood := goodIn_r _ [22, 15, 16, 17, 7, 18, 23, 24, 25, 26] (by decide +kernel) (by decide +kernel)
set_option maxRecDepth 20000 in
theorem gX3_set_X3_isGood : GoodIn wsX3_set (wsV RX3 51 RX3 yX3_isGood wsX3_isGood) := goodIn_app (goodIn_of _ (by decide +kernel)) ggX3_set_X3_isGood
theorem dX3_set_0 : decode cX3_set 0 = .ok (.aload_n 0, 1) := by decide +kernel
theorem dX3_set_1 : decode cX3_set 1 = .ok (.iload_n 1, 1) := by decide +kernel
theorem dX3_set_2 : decode cX3_set 2 = .ok (.iload_n 2, 1) := by decide +kernel
theorem dX3_set_3 : decode cX3_set 3 = .ok (.invokevirtual 65, 3) := by decide +kernel
theorem dX3_set_6 : decode cX3_set 6 = .ok (.ifCond .ne 5, 3) := by decide +kernel
theorem dX3_set_9 : decode cX3_set 9 = .ok (.iconst (-1), 1) := by decide +kernel
theorem dX3_set_10 : decode cX3_set 10 = .ok (.ireturn, 1) := by decide +kernel
theorem dX3_set_11 : decode cX3_set 11 = .ok (.aload_n 0, 1) := by decide +kernel
theorem dX3_set_12 : decode cX3_set 12 = .ok (.aload_n 0, 1) := by decide +kernel
theorem dX3_set_13 : decode cX3_set 13 = .ok (.getfield 17, 3) := by decide +kernel
theorem dX3_set_16 : decode cX3_set 16 = .ok (.bipush 8, 2) := by decide +kernel
theorem dX3_set_18 : decode cX3_set 18 = .ok (.iload_n 1, 1) := by decide +kernel
theorem dX3_set_19 : decode cX3_set 19 = .ok (.imul, 1) := by decide +kernel
theorem dX3_set_20 : decode cX3_set 20 = .ok (.iload_n 2, 1) := by decide +kernel
theorem dX3_set_21 : decode cX3_set 21 = .ok (.iadd, 1) := by decide +kernel
theorem dX3_set_22 : decode cX3_set 22 = .ok (.iaload, 1) := by decide +kernel
theorem dX3_set_23 : decode cX3_set 23 = .ok (.iload_n 3, 1) := by decide +kernel
theorem dX3_set_24 : decode cX3_set 24 = .ok (.iload 4, 2) := by decide +kernel
theorem dX3_set_26 : decode cX3_set 26 = .ok (.invokevirtual 51, 3) := by decide +kernel
theorem dX3_set_29 : decode cX3_set 29 = .ok (.ifCond .ne 6, 3) := by decide +kernel
theorem dX3_set_32 : decode cX3_set 32 = .ok (.bipush (-2), 2) := by decide +kernel
theorem dX3_set_34 : decode cX3_set 34 = .ok (.ireturn, 1) := by decide +kernel
theorem dX3_set_35 : decode cX3_set 35 = .ok (.aload_n 0, 1) := by decide +kernel
theorem dX3_set_36 : decode cX3_set 36 = .ok (.getfield 20, 3) := by decide +kernel
theorem dX3_set_39 : decode cX3_set 39 = .ok (.bipush 8, 2) := by decide +kernel
theorem dX3_set_41 : decode cX3_set 41 = .ok (.iload_n 1, 1) := by decide +kernel
theorem dX3_set_42 : decode cX3_set 42 = .ok (.imul, 1) := by decide +kernel
theorem dX3_set_43 : decode cX3_set 43 = .ok (.iload_n 2, 1) := by decide +kernel
theorem dX3_set_44 : decode cX3_set 44 = .ok (.iadd, 1) := by decide +kernel
theorem dX3_set_45 : decode cX3_set 45 = .ok (.iload_n 3, 1) := by decide +kernel
theorem dX3_set_46 : decode cX3_set 46 = .ok (.iastore, 1) := by decide +kernel
theorem dX3_set_47 : decode cX3_set 47 = .ok (.aload_n 0, 1) := by decide +kernel
theorem dX3_set_48 : decode cX3_set 48 = .ok (.getfield 23, 3) := by decide +kernel
theorem dX3_set_51 : decode cX3_set 51 = .ok (.bipush 8, 2) := by decide +kernel
theorem dX3_set_53 : decode cX3_set 53 = .ok (.iload_n 1, 1) := by decide +kernel
theorem dX3_set_54 : decode cX3_set 54 = .ok (.imul, 1) := by decide +kernel
theorem dX3_set_55 : decode cX3_set 55 = .ok (.iload_n 2, 1) := by decide +kernel
theorem dX3_set_56 : decode cX3_set 56 = .ok (.iadd, 1) := by decide +kernel
theorem dX3_set_57 : decode cX3_set 57 = .ok (.iload 4, 2) := by decide +kernel
theorem dX3_set_59 : decode cX3_set 59 = .ok (.iastore, 1) := by decide +kernel
theorem dX3_set_60 : decode cX3_set 60 = .ok (.iconst 0, 1) := by decide +kernel
theorem dX3_set_61 : decode cX3_set 61 = .ok (.ireturn, 1) := by decide +kernel
set_option maxRecDepth 20000 in
theorem ggX3_part_X3_isPart : GoodIn wsX3_part wsX3_isPart := goodIn_r _ [8, 9, 10, 11, 12, 7, 13, 14, 15, 16, 17, 18, 19, 20, 21, 22, 23, 24, 25, 26, 27] (by decide +kernel) (by decide +kernel)
set_option maxRecDepth 20000 in
theorem gX3_part_X3_isPart : GoodIn wsX3_part (wsV RX3 65 RX3 yX3_isPart wsX3_isPart) := goodIn_app (goodIn_of _ (by decide +kernel)) ggX3_part_X3_isPart
set_option maxRecDepth 20000 in
theorem ggX3_part_X3_in : GoodIn wsX3_part wsX3_in := goodIn_r _ [18] (by decide +kernel) (by decide +kernel)
set_option maxRecDepth 20000 in
theorem gX3_part_X3_in : GoodIn wsX3_part (wsV RX3 40 RX3 yX3_in wsX3_in) := goodIn_app (goodIn_of _ (by decide +kernel)) ggX3_part_X3_in
theorem dX3_part_0 : decode cX3_part 0 = .ok (.aload_n 0, 1) := by decide +kernel
theorem dX3_part_1 : decode cX3_part 1 = .ok (.iload_n 1, 1) := by decide +kernel
theorem dX3_part_2 : decode cX3_part 2 = .ok (.iload_n 2, 1) := by decide +kernel
theorem dX3_part_3 : decode cX3_part 3 = .ok (.invokevirtual 65, 3) := by decide +kernel
theorem dX3_part_6 : decode cX3_part 6 = .ok (.ifCond .eq 13, 3) := by decide +kernel
theorem dX3_part_9 : decode cX3_part 9 = .ok (.aload_n 0, 1) := by decide +kernel
theorem dX3_part_10 : decode cX3_part 10 = .ok (.iload_n 3, 1) := by decide +kernel
theorem dX3_part_11 : decode cX3_part 11 = .ok (.iconst 0, 1) := by decide +kernel
theorem dX3_part_12 : decode cX3_part 12 = .ok (.iconst 2, 1) := by decide +kernel
theorem dX3_part_13 : decode cX3_part 13 = .ok (.invokevirtual 40, 3) := by decide +kernel
theorem dX3_part_16 : decode cX3_part 16 = .ok (.ifCond .ne 6, 3) := by decide +kernel
theorem dX3_part_19 : decode cX3_part 19 = .ok (.bipush (-100), 2) := by decide +kernel
theorem dX3_part_21 : decode cX3_part 21 = .ok (.ireturn, 1) := by decide +kernel
theorem dX3_part_22 : decode cX3_part 22 = .ok (.iload_n 3, 1) := by decide +kernel
theorem dX3_part_23 : decode cX3_part 23 = .ok (.ifCond .ne 17, 3) := by decide +kernel
theorem dX3_part_26 : decode cX3_part 26 = .ok (.aload_n 0, 1) := by decide +kernel
theorem dX3_part_27 : decode cX3_part 27 = .ok (.getfield 17, 3) := by decide +kernel
theorem dX3_part_30 : decode cX3_part 30 = .ok (.bipush 8, 2) := by decide +kernel
theorem dX3_part_32 : decode cX3_part 32 = .ok (.iload_n 1, 1) := by decide +kernel
theorem dX3_part_33 : decode cX3_part 33 = .ok (.imul, 1) := by decide +kernel
theorem dX3_part_34 : decode cX3_part 34 = .ok (.iload_n 2, 1) := by decide +kernel
theorem dX3_part_35 : decode cX3_part 35 = .ok (.iadd, 1) := by decide +kernel
theorem dX3_part_36 : decode cX3_part 36 = .ok (.iaload, 1) := by decide +kernel
theorem dX3_part_37 : decode cX3_part 37 = .ok (.goto 33, 3) := by decide +kernel
theorem dX3_part_40 : decode cX3_part 40 = .ok (.iload_n 3, 1) := by decide +kernel
theorem dX3_part_41 : decode cX3_part 41 = .ok (.iconst 1, 1) := by decide +kernel
theorem dX3_part_42 : decode cX3_part 42 = .ok (.if_icmp .ne 17, 3) := by decide +kernel
theorem dX3_part_45 : decode cX3_part 45 = .ok (.aload_n 0, 1) := by decide +kernel
theorem dX3_part_46 : decode cX3_part 46 = .ok (.getfield 20, 3) := by decide +kernel
theorem dX3_part_49 : decode cX3_part 49 = .ok (.bipush 8, 2) := by decide +kernel
theorem dX3_part_51 : decode cX3_part 51 = .ok (.iload_n 1, 1) := by decide +kernel
theorem dX3_part_52 : decode cX3_part 52 = .ok (.imul, 1) := by decide +kernel
theorem dX3_part_53 : decode cX3_part 53 = .ok (.iload_n 2, 1) := by decide +kernel
theorem dX3_part_54 : decode cX3_part 54 = .ok (.iadd, 1) := by decide +kernel
theorem dX3_part_55 : decode cX3_part 55 = .ok (.iaload, 1) := by decide +kernel
theorem dX3_part_56 : decode cX3_part 56 = .ok (.goto 14, 3) := by decide +kernel
theorem dX3_part_59 : decode cX3_part 59 = .ok (.aload_n 0, 1) := by decide +kernel
theorem dX3_part_60 : decode cX3_part 60 = .ok (.getfield 23, 3) := by decide +kernel
theorem dX3_part_63 : decode cX3_part 63 = .ok (.bipush 8, 2) := by decide +kernel
theorem dX3_part_65 : decode cX3_part 65 = .ok (.iload_n 1, 1) := by decide +kernel
theorem dX3_part_66 : decode cX3_part 66 = .ok (.imul, 1) := by decide +kernel
theorem dX3_part_67 : decode cX3_part 67 = .ok (.iload_n 2, 1) := by decide +kernel
theorem dX3_part_68 : decode cX3_part 68 = .ok (.iadd, 1) := by decide +kernel
theorem dX3_part_69 : decode cX3_part 69 = .ok (.iaload, 1) := by decide +kernel
theorem dX3_part_70 : decode cX3_part 70 = .ok (.ireturn, 1) := by decide +kernel
set_option maxRecDepth 20000 in
theorem ggX3_turn_X3_isBench : GoodIn wsX3_turn wsX3_isBench := goodIn_r _ [9, 10, 11, 12, 13, 8, 14, 19, 20, 21, 22, 23, 24, 25, 26, 27] (by decide +kernel) (by decide +kernel)
set_option maxRecDepth 20000 in
theorem gX3_turn_X3_isBench : GoodIn wsX3_turn (wsV RX3 44 RX3 yX3_isBench wsX3_isBench) := goodIn_app (goodIn_of _ (by decide +kernel)) ggX3_turn_X3_isBench
set_option maxRecDepth 20000 in
theorem ggX3_turn_X3_lay : GoodIn wsX3_turn wsX3_lay := goodIn_r _ [18, 2, 3, 4, 19, 20, 21, 22, 23, 24, 25, 26, 27] (by decide +kernel) (by decide +kernel)
set_option maxRecDepth 20000 in
theorem gX3_turn_X3_lay : GoodIn wsX3_turn (wsV RX3 61 RX3 yX3_lay wsX3_lay) := goodIn_app (goodIn_of _ (by decide +kernel)) ggX3_turn_X3_lay
theorem dX3_turn_0 : decode cX3_turn 0 = .ok (.aload_n 0, 1) := by decide +kernel
theorem dX3_turn_1 : decode cX3_turn 1 = .ok (.iload_n 1, 1) := by decide +kernel
theorem dX3_turn_2 : decode cX3_turn 2 = .ok (.invokevirtual 44, 3) := by decide +kernel
theorem dX3_turn_5 : decode cX3_turn 5 = .ok (.ifCond .ne 5, 3) := by decide +kernel
theorem dX3_turn_8 : decode cX3_turn 8 = .ok (.iconst (-1), 1) := by decide +kernel
theorem dX3_turn_9 : decode cX3_turn 9 = .ok (.ireturn, 1) := by decide +kernel
theorem dX3_turn_10 : decode cX3_turn 10 = .ok (.iconst 0, 1) := by decide +kernel
theorem dX3_turn_11 : decode cX3_turn 11 = .ok (.istore_n 2, 1) := by decide +kernel
theorem dX3_turn_12 : decode cX3_turn 12 = .ok (.iconst 2, 1) := by decide +kernel
theorem dX3_turn_13 : decode cX3_turn 13 = .ok (.iload_n 2, 1) := by decide +kernel
theorem dX3_turn_14 : decode cX3_turn 14 = .ok (.imul, 1) := by decide +kernel
theorem dX3_turn_15 : decode cX3_turn 15 = .ok (.aload_n 0, 1) := by decide +kernel
theorem dX3_turn_16 : decode cX3_turn 16 = .ok (.getfield 13, 3) := by decide +kernel
theorem dX3_turn_19 : decode cX3_turn 19 = .ok (.iload_n 1, 1) := by decide +kernel
theorem dX3_turn_20 : decode cX3_turn 20 = .ok (.iaload, 1) := by decide +kernel
theorem dX3_turn_21 : decode cX3_turn 21 = .ok (.iconst 1, 1) := by decide +kernel
theorem dX3_turn_22 : decode cX3_turn 22 = .ok (.isub, 1) := by decide +kernel
theorem dX3_turn_23 : decode cX3_turn 23 = .ok (.if_icmp .ge 95, 3) := by decide +kernel
theorem dX3_turn_26 : decode cX3_turn 26 = .ok (.bipush 8, 2) := by decide +kernel
theorem dX3_turn_28 : decode cX3_turn 28 = .ok (.iload_n 1, 1) := by decide +kernel
theorem dX3_turn_29 : decode cX3_turn 29 = .ok (.imul, 1) := by decide +kernel
theorem dX3_turn_30 : decode cX3_turn 30 = .ok (.iload_n 2, 1) := by decide +kernel
theorem dX3_turn_31 : decode cX3_turn 31 = .ok (.iadd, 1) := by decide +kernel
theorem dX3_turn_32 : decode cX3_turn 32 = .ok (.istore_n 3, 1) := by decide +kernel
theorem dX3_turn_33 : decode cX3_turn 33 = .ok (.bipush 8, 2) := by decide +kernel
theorem dX3_turn_35 : decode cX3_turn 35 = .ok (.iload_n 1, 1) := by decide +kernel
theorem dX3_turn_36 : decode cX3_turn 36 = .ok (.imul, 1) := by decide +kernel
theorem dX3_turn_37 : decode cX3_turn 37 = .ok (.aload_n 0, 1) := by decide +kernel
theorem dX3_turn_38 : decode cX3_turn 38 = .ok (.getfield 13, 3) := by decide +kernel
theorem dX3_turn_41 : decode cX3_turn 41 = .ok (.iload_n 1, 1) := by decide +kernel
theorem dX3_turn_42 : decode cX3_turn 42 = .ok (.iaload, 1) := by decide +kernel
theorem dX3_turn_43 : decode cX3_turn 43 = .ok (.iadd, 1) := by decide +kernel
theorem dX3_turn_44 : decode cX3_turn 44 = .ok (.iconst 1, 1) := by decide +kernel
theorem dX3_turn_45 : decode cX3_turn 45 = .ok (.isub, 1) := by decide +kernel
theorem dX3_turn_46 : decode cX3_turn 46 = .ok (.iload_n 2, 1) := by decide +kernel
theorem dX3_turn_47 : decode cX3_turn 47 = .ok (.isub, 1) := by decide +kernel
theorem dX3_turn_48 : decode cX3_turn 48 = .ok (.istore 4, 2) := by decide +kernel
theorem dX3_turn_50 : decode cX3_turn 50 = .ok (.aload_n 0, 1) := by decide +kernel
theorem dX3_turn_51 : decode cX3_turn 51 = .ok (.getfield 17, 3) := by decide +kernel
theorem dX3_turn_54 : decode cX3_turn 54 = .ok (.iload_n 3, 1) := by decide +kernel
theorem dX3_turn_55 : decode cX3_turn 55 = .ok (.iaload, 1) := by decide +kernel
theorem dX3_turn_56 : decode cX3_turn 56 = .ok (.istore 5, 2) := by decide +kernel
theorem dX3_turn_58 : decode cX3_turn 58 = .ok (.aload_n 0, 1) := by decide +kernel
theorem dX3_turn_59 : decode cX3_turn 59 = .ok (.getfield 20, 3) := by decide +kernel
theorem dX3_turn_62 : decode cX3_turn 62 = .ok (.iload_n 3, 1) := by decide +kernel
theorem dX3_turn_63 : decode cX3_turn 63 = .ok (.iaload, 1) := by decide +kernel
theorem dX3_turn_64 : decode cX3_turn 64 = .ok (.istore 6, 2) := by decide +kernel
theorem dX3_turn_66 : decode cX3_turn 66 = .ok (.aload_n 0, 1) := by decide +kernel
theorem dX3_turn_67 : decode cX3_turn 67 = .ok (.getfield 23, 3) := by decide +kernel
theorem dX3_turn_70 : decode cX3_turn 70 = .ok (.iload_n 3, 1) := by decide +kernel
theorem dX3_turn_71 : decode cX3_turn 71 = .ok (.iaload, 1) := by decide +kernel
theorem dX3_turn_72 : decode cX3_turn 72 = .ok (.istore 7, 2) := by decide +kernel
theorem dX3_turn_74 : decode cX3_turn 74 = .ok (.aload_n 0, 1) := by decide +kernel
theorem dX3_turn_75 : decode cX3_turn 75 = .ok (.iload_n 3, 1) := by decide +kernel
theorem dX3_turn_76 : decode cX3_turn 76 = .ok (.aload_n 0, 1) := by decide +kernel
theorem dX3_turn_77 : decode cX3_turn 77 = .ok (.getfield 17, 3) := by decide +kernel
theorem dX3_turn_80 : decode cX3_turn 80 = .ok (.iload 4, 2) := by decide +kernel
theorem dX3_turn_82 : decode cX3_turn 82 = .ok (.iaload, 1) := by decide +kernel
theorem dX3_turn_83 : decode cX3_turn 83 = .ok (.aload_n 0, 1) := by decide +kernel
theorem dX3_turn_84 : decode cX3_turn 84 = .ok (.getfield 20, 3) := by decide +kernel
theorem dX3_turn_87 : decode cX3_turn 87 = .ok (.iload 4, 2) := by decide +kernel
theorem dX3_turn_89 : decode cX3_turn 89 = .ok (.iaload, 1) := by decide +kernel
theorem dX3_turn_90 : decode cX3_turn 90 = .ok (.aload_n 0, 1) := by decide +kernel
theorem dX3_turn_91 : decode cX3_turn 91 = .ok (.getfield 23, 3) := by decide +kernel
theorem dX3_turn_94 : decode cX3_turn 94 = .ok (.iload 4, 2) := by decide +kernel
theorem dX3_turn_96 : decode cX3_turn 96 = .ok (.iaload, 1) := by decide +kernel
theorem dX3_turn_97 : decode cX3_turn 97 = .ok (.invokevirtual 61, 3) := by decide +kernel
theorem dX3_turn_100 : decode cX3_turn 100 = .ok (.aload_n 0, 1) := by decide +kernel
theorem dX3_turn_101 : decode cX3_turn 101 = .ok (.iload 4, 2) := by decide +kernel
theorem dX3_turn_103 : decode cX3_turn 103 = .ok (.iload 5, 2) := by decide +kernel
theorem dX3_turn_105 : decode cX3_turn 105 = .ok (.iload 6, 2) := by decide +kernel
theorem dX3_turn_107 : decode cX3_turn 107 = .ok (.iload 7, 2) := by decide +kernel
theorem dX3_turn_109 : decode cX3_turn 109 = .ok (.invokevirtual 61, 3) := by decide +kernel
theorem dX3_turn_112 : decode cX3_turn 112 = .ok (.iinc 2 1, 3) := by decide +kernel
theorem dX3_turn_115 : decode cX3_turn 115 = .ok (.goto (-103), 3) := by decide +kernel
theorem dX3_turn_118 : decode cX3_turn 118 = .ok (.aload_n 0, 1) := by decide +kernel
theorem dX3_turn_119 : decode cX3_turn 119 = .ok (.getfield 13, 3) := by decide +kernel
theorem dX3_turn_122 : decode cX3_turn 122 = .ok (.iload_n 1, 1) := by decide +kernel
theorem dX3_turn_123 : decode cX3_turn 123 = .ok (.iaload, 1) := by decide +kernel
theorem dX3_turn_124 : decode cX3_turn 124 = .ok (.ireturn, 1) := by decide +kernel
set_option maxRecDepth 20000 in
theorem ggX3_join_X3_isBench : GoodIn wsX3_join wsX3_isBench := goodIn_r _ [9, 10, 11, 12, 13, 8, 14, 27, 28, 29, 30, 31, 32, 33, 34, 35] (by decide +kernel) (by decide +kernel)
set_option maxRecDepth 20000 in
theorem gX3_join_X3_isBench : GoodIn wsX3_join (wsV RX3 44 RX3 yX3_isBench wsX3_isBench) := goodIn_app (goodIn_of _ (by decide +kernel)) ggX3_join_X3_isBench
set_option maxRecDepth 20000 in
theorem ggX3_join_X3_bent : GoodIn wsX3_join wsX3_bent := goodIn_r _ [18, 1, 2, 27, 28, 29, 30, 31, 32, 33, 34, 35] (by decide +kernel) (by decide +kernel)
set_option maxRecDepth 20000 in
theorem gX3_join_X3_bent : GoodIn wsX3_join (wsV RX3 54 RX3 yX3_bent wsX3_bent) := goodIn_app (goodIn_of _ (by decide +kernel)) ggX3_join_X3_bent
set_option maxRecDepth 20000 in
theorem ggX3_join_X3_tilts : GoodIn wsX3_join wsX3_tilts := goodIn_r _ [22, 1, 2, 27, 28, 29, 30, 31, 32, 33, 34, 35] (by decide +kernel) (by decide +kernel)
set_option maxRecDepth 20000 in
theorem gX3_join_X3_tilts : GoodIn wsX3_join (wsV RX3 58 RX3 yX3_tilts wsX3_tilts) := goodIn_app (goodIn_of _ (by decide +kernel)) ggX3_join_X3_tilts
set_option maxRecDepth 20000 in
theorem ggX3_join_X3_lay : GoodIn wsX3_join wsX3_lay := goodIn_r _ [26, 2, 3, 4, 27, 28, 29, 30, 31, 32, 33, 34, 35] (by decide +kernel) (by decide +kernel)
set_option maxRecDepth 20000 in
theorem gX3_join_X3_lay : GoodIn wsX3_join (wsV RX3 61 RX3 yX3_lay wsX3_lay) := goodIn_app (goodIn_of _ (by decide +kernel)) ggX3_join_X3_lay
theorem dX3_join_0 : decode cX3_join 0 = .ok (.aload_n 0, 1) := by decide +kernel
theorem dX3_join_1 : decode cX3_join 1 = .ok (.iload_n 1, 1) := by decide +kernel
theorem dX3_join_2 : decode cX3_join 2 = .ok (.invokevirtual 44, 3) := by decide +kernel
theorem dX3_join_5 : decode cX3_join 5 = .ok (.ifCond .eq 11, 3) := by decide +kernel
theorem dX3_join_8 : decode cX3_join 8 = .ok (.aload_n 0, 1) := by decide +kernel
theorem dX3_join_9 : decode cX3_join 9 = .ok (.iload_n 2, 1) := by decide +kernel
theorem dX3_join_10 : decode cX3_join 10 = .ok (.invokevirtual 44, 3) := by decide +kernel
theorem dX3_join_13 : decode cX3_join 13 = .ok (.ifCond .ne 5, 3) := by decide +kernel
theorem dX3_join_16 : decode cX3_join 16 = .ok (.iconst (-1), 1) := by decide +kernel
theorem dX3_join_17 : decode cX3_join 17 = .ok (.ireturn, 1) := by decide +kernel
theorem dX3_join_18 : decode cX3_join 18 = .ok (.aload_n 0, 1) := by decide +kernel
theorem dX3_join_19 : decode cX3_join 19 = .ok (.getfield 13, 3) := by decide +kernel
theorem dX3_join_22 : decode cX3_join 22 = .ok (.iload_n 1, 1) := by decide +kernel
theorem dX3_join_23 : decode cX3_join 23 = .ok (.iaload, 1) := by decide +kernel
theorem dX3_join_24 : decode cX3_join 24 = .ok (.aload_n 0, 1) := by decide +kernel
theorem dX3_join_25 : decode cX3_join 25 = .ok (.getfield 13, 3) := by decide +kernel
theorem dX3_join_28 : decode cX3_join 28 = .ok (.iload_n 2, 1) := by decide +kernel
theorem dX3_join_29 : decode cX3_join 29 = .ok (.iaload, 1) := by decide +kernel
theorem dX3_join_30 : decode cX3_join 30 = .ok (.iadd, 1) := by decide +kernel
theorem dX3_join_31 : decode cX3_join 31 = .ok (.bipush 8, 2) := by decide +kernel
theorem dX3_join_33 : decode cX3_join 33 = .ok (.if_icmp .gt 33, 3) := by decide +kernel
theorem dX3_join_36 : decode cX3_join 36 = .ok (.aload_n 0, 1) := by decide +kernel
theorem dX3_join_37 : decode cX3_join 37 = .ok (.iload_n 1, 1) := by decide +kernel
theorem dX3_join_38 : decode cX3_join 38 = .ok (.invokevirtual 54, 3) := by decide +kernel
theorem dX3_join_41 : decode cX3_join 41 = .ok (.aload_n 0, 1) := by decide +kernel
theorem dX3_join_42 : decode cX3_join 42 = .ok (.iload_n 2, 1) := by decide +kernel
theorem dX3_join_43 : decode cX3_join 43 = .ok (.invokevirtual 54, 3) := by decide +kernel
theorem dX3_join_46 : decode cX3_join 46 = .ok (.iadd, 1) := by decide +kernel
theorem dX3_join_47 : decode cX3_join 47 = .ok (.iconst 3, 1) := by decide +kernel
theorem dX3_join_48 : decode cX3_join 48 = .ok (.if_icmp .gt 18, 3) := by decide +kernel
theorem dX3_join_51 : decode cX3_join 51 = .ok (.aload_n 0, 1) := by decide +kernel
theorem dX3_join_52 : decode cX3_join 52 = .ok (.iload_n 1, 1) := by decide +kernel
theorem dX3_join_53 : decode cX3_join 53 = .ok (.invokevirtual 58, 3) := by decide +kernel
theorem dX3_join_56 : decode cX3_join 56 = .ok (.aload_n 0, 1) := by decide +kernel
theorem dX3_join_57 : decode cX3_join 57 = .ok (.iload_n 2, 1) := by decide +kernel
theorem dX3_join_58 : decode cX3_join 58 = .ok (.invokevirtual 58, 3) := by decide +kernel
theorem dX3_join_61 : decode cX3_join 61 = .ok (.iadd, 1) := by decide +kernel
theorem dX3_join_62 : decode cX3_join 62 = .ok (.iconst 2, 1) := by decide +kernel
theorem dX3_join_63 : decode cX3_join 63 = .ok (.if_icmp .le 6, 3) := by decide +kernel
theorem dX3_join_66 : decode cX3_join 66 = .ok (.bipush (-4), 2) := by decide +kernel
theorem dX3_join_68 : decode cX3_join 68 = .ok (.ireturn, 1) := by decide +kernel
theorem dX3_join_69 : decode cX3_join 69 = .ok (.aload_n 0, 1) := by decide +kernel
theorem dX3_join_70 : decode cX3_join 70 = .ok (.getfield 13, 3) := by decide +kernel
theorem dX3_join_73 : decode cX3_join 73 = .ok (.iload_n 2, 1) := by decide +kernel
theorem dX3_join_74 : decode cX3_join 74 = .ok (.iaload, 1) := by decide +kernel
theorem dX3_join_75 : decode cX3_join 75 = .ok (.istore_n 3, 1) := by decide +kernel
theorem dX3_join_76 : decode cX3_join 76 = .ok (.iconst 0, 1) := by decide +kernel
theorem dX3_join_77 : decode cX3_join 77 = .ok (.istore 4, 2) := by decide +kernel
theorem dX3_join_79 : decode cX3_join 79 = .ok (.iload 4, 2) := by decide +kernel
theorem dX3_join_81 : decode cX3_join 81 = .ok (.iload_n 3, 1) := by decide +kernel
theorem dX3_join_82 : decode cX3_join 82 = .ok (.if_icmp .ge 63, 3) := by decide +kernel
theorem dX3_join_85 : decode cX3_join 85 = .ok (.aload_n 0, 1) := by decide +kernel
theorem dX3_join_86 : decode cX3_join 86 = .ok (.bipush 8, 2) := by decide +kernel
theorem dX3_join_88 : decode cX3_join 88 = .ok (.iload_n 1, 1) := by decide +kernel
theorem dX3_join_89 : decode cX3_join 89 = .ok (.imul, 1) := by decide +kernel
theorem dX3_join_90 : decode cX3_join 90 = .ok (.aload_n 0, 1) := by decide +kernel
theorem dX3_join_91 : decode cX3_join 91 = .ok (.getfield 13, 3) := by decide +kernel
theorem dX3_join_94 : decode cX3_join 94 = .ok (.iload_n 1, 1) := by decide +kernel
theorem dX3_join_95 : decode cX3_join 95 = .ok (.iaload, 1) := by decide +kernel
theorem dX3_join_96 : decode cX3_join 96 = .ok (.iadd, 1) := by decide +kernel
theorem dX3_join_97 : decode cX3_join 97 = .ok (.iload 4, 2) := by decide +kernel
theorem dX3_join_99 : decode cX3_join 99 = .ok (.iadd, 1) := by decide +kernel
theorem dX3_join_100 : decode cX3_join 100 = .ok (.aload_n 0, 1) := by decide +kernel
theorem dX3_join_101 : decode cX3_join 101 = .ok (.getfield 17, 3) := by decide +kernel
theorem dX3_join_104 : decode cX3_join 104 = .ok (.bipush 8, 2) := by decide +kernel
theorem dX3_join_106 : decode cX3_join 106 = .ok (.iload_n 2, 1) := by decide +kernel
theorem dX3_join_107 : decode cX3_join 107 = .ok (.imul, 1) := by decide +kernel
theorem dX3_join_108 : decode cX3_join 108 = .ok (.iload 4, 2) := by decide +kernel
theorem dX3_join_110 : decode cX3_join 110 = .ok (.iadd, 1) := by decide +kernel
theorem dX3_join_111 : decode cX3_join 111 = .ok (.iaload, 1) := by decide +kernel
theorem dX3_join_112 : decode cX3_join 112 = .ok (.aload_n 0, 1) := by decide +kernel
theorem dX3_join_113 : decode cX3_join 113 = .ok (.getfield 20, 3) := by decide +kernel
theorem dX3_join_116 : decode cX3_join 116 = .ok (.bipush 8, 2) := by decide +kernel
theorem dX3_join_118 : decode cX3_join 118 = .ok (.iload_n 2, 1) := by decide +kernel
theorem dX3_join_119 : decode cX3_join 119 = .ok (.imul, 1) := by decide +kernel
theorem dX3_join_120 : decode cX3_join 120 = .ok (.iload 4, 2) := by decide +kernel
theorem dX3_join_122 : decode cX3_join 122 = .ok (.iadd, 1) := by decide +kernel
theorem dX3_join_123 : decode cX3_join 123 = .ok (.iaload, 1) := by decide +kernel
theorem dX3_join_124 : decode cX3_join 124 = .ok (.aload_n 0, 1) := by decide +kernel
theorem dX3_join_125 : decode cX3_join 125 = .ok (.getfield 23, 3) := by decide +kernel
theorem dX3_join_128 : decode cX3_join 128 = .ok (.bipush 8, 2) := by decide +kernel
theorem dX3_join_130 : decode cX3_join 130 = .ok (.iload_n 2, 1) := by decide +kernel
theorem dX3_join_131 : decode cX3_join 131 = .ok (.imul, 1) := by decide +kernel
theorem dX3_join_132 : decode cX3_join 132 = .ok (.iload 4, 2) := by decide +kernel
theorem dX3_join_134 : decode cX3_join 134 = .ok (.iadd, 1) := by decide +kernel
theorem dX3_join_135 : decode cX3_join 135 = .ok (.iaload, 1) := by decide +kernel
theorem dX3_join_136 : decode cX3_join 136 = .ok (.invokevirtual 61, 3) := by decide +kernel
theorem dX3_join_139 : decode cX3_join 139 = .ok (.iinc 4 1, 3) := by decide +kernel
theorem dX3_join_142 : decode cX3_join 142 = .ok (.goto (-63), 3) := by decide +kernel
theorem dX3_join_145 : decode cX3_join 145 = .ok (.aload_n 0, 1) := by decide +kernel
theorem dX3_join_146 : decode cX3_join 146 = .ok (.getfield 13, 3) := by decide +kernel
theorem dX3_join_149 : decode cX3_join 149 = .ok (.iload_n 1, 1) := by decide +kernel
theorem dX3_join_150 : decode cX3_join 150 = .ok (.dup2, 1) := by decide +kernel
theorem dX3_join_151 : decode cX3_join 151 = .ok (.iaload, 1) := by decide +kernel
theorem dX3_join_152 : decode cX3_join 152 = .ok (.iload_n 3, 1) := by decide +kernel
theorem dX3_join_153 : decode cX3_join 153 = .ok (.iadd, 1) := by decide +kernel
theorem dX3_join_154 : decode cX3_join 154 = .ok (.iastore, 1) := by decide +kernel
theorem dX3_join_155 : decode cX3_join 155 = .ok (.aload_n 0, 1) := by decide +kernel
theorem dX3_join_156 : decode cX3_join 156 = .ok (.getfield 13, 3) := by decide +kernel
theorem dX3_join_159 : decode cX3_join 159 = .ok (.iload_n 1, 1) := by decide +kernel
theorem dX3_join_160 : decode cX3_join 160 = .ok (.iaload, 1) := by decide +kernel
theorem dX3_join_161 : decode cX3_join 161 = .ok (.ireturn, 1) := by decide +kernel
theorem dX3_begin_0 : decode cX3_begin 0 = .ok (.iconst 0, 1) := by decide +kernel
theorem dX3_begin_1 : decode cX3_begin 1 = .ok (.istore_n 1, 1) := by decide +kernel
theorem dX3_begin_2 : decode cX3_begin 2 = .ok (.iload_n 1, 1) := by decide +kernel
theorem dX3_begin_3 : decode cX3_begin 3 = .ok (.bipush 6, 2) := by decide +kernel
theorem dX3_begin_5 : decode cX3_begin 5 = .ok (.if_icmp .ge 16, 3) := by decide +kernel
theorem dX3_begin_8 : decode cX3_begin 8 = .ok (.aload_n 0, 1) := by decide +kernel
theorem dX3_begin_9 : decode cX3_begin 9 = .ok (.getfield 32, 3) := by decide +kernel
theorem dX3_begin_12 : decode cX3_begin 12 = .ok (.iload_n 1, 1) := by decide +kernel
theorem dX3_begin_13 : decode cX3_begin 13 = .ok (.lconst 0, 1) := by decide +kernel
theorem dX3_begin_14 : decode cX3_begin 14 = .ok (.lastore, 1) := by decide +kernel
theorem dX3_begin_15 : decode cX3_begin 15 = .ok (.iinc 1 1, 3) := by decide +kernel
theorem dX3_begin_18 : decode cX3_begin 18 = .ok (.goto (-16), 3) := by decide +kernel
theorem dX3_begin_21 : decode cX3_begin 21 = .ok (.aload_n 0, 1) := by decide +kernel
theorem dX3_begin_22 : decode cX3_begin 22 = .ok (.getfield 32, 3) := by decide +kernel
theorem dX3_begin_25 : decode cX3_begin 25 = .ok (.iconst 0, 1) := by decide +kernel
theorem dX3_begin_26 : decode cX3_begin 26 = .ok (.lconst 1, 1) := by decide +kernel
theorem dX3_begin_27 : decode cX3_begin 27 = .ok (.lastore, 1) := by decide +kernel
theorem dX3_begin_28 : decode cX3_begin 28 = .ok (.aload_n 0, 1) := by decide +kernel
theorem dX3_begin_29 : decode cX3_begin 29 = .ok (.getfield 32, 3) := by decide +kernel
theorem dX3_begin_32 : decode cX3_begin 32 = .ok (.iconst 3, 1) := by decide +kernel
theorem dX3_begin_33 : decode cX3_begin 33 = .ok (.lconst 1, 1) := by decide +kernel
theorem dX3_begin_34 : decode cX3_begin 34 = .ok (.lastore, 1) := by decide +kernel
theorem dX3_begin_35 : decode cX3_begin 35 = .ok (.aload_n 0, 1) := by decide +kernel
theorem dX3_begin_36 : decode cX3_begin 36 = .ok (.lconst 1, 1) := by decide +kernel
theorem dX3_begin_37 : decode cX3_begin 37 = .ok (.putfield 36, 3) := by decide +kernel
theorem dX3_begin_40 : decode cX3_begin 40 = .ok (.return_, 1) := by decide +kernel
theorem dX3_bend_0 : decode cX3_bend 0 = .ok (.aload_n 0, 1) := by decide +kernel
theorem dX3_bend_1 : decode cX3_bend 1 = .ok (.getfield 32, 3) := by decide +kernel
theorem dX3_bend_4 : decode cX3_bend 4 = .ok (.iconst 2, 1) := by decide +kernel
theorem dX3_bend_5 : decode cX3_bend 5 = .ok (.laload, 1) := by decide +kernel
theorem dX3_bend_6 : decode cX3_bend 6 = .ok (.lload_n 1, 1) := by decide +kernel
theorem dX3_bend_7 : decode cX3_bend 7 = .ok (.lmul, 1) := by decide +kernel
theorem dX3_bend_8 : decode cX3_bend 8 = .ok (.aload_n 0, 1) := by decide +kernel
theorem dX3_bend_9 : decode cX3_bend 9 = .ok (.getfield 32, 3) := by decide +kernel
theorem dX3_bend_12 : decode cX3_bend 12 = .ok (.iconst 0, 1) := by decide +kernel
theorem dX3_bend_13 : decode cX3_bend 13 = .ok (.laload, 1) := by decide +kernel
theorem dX3_bend_14 : decode cX3_bend 14 = .ok (.lsub, 1) := by decide +kernel
theorem dX3_bend_15 : decode cX3_bend 15 = .ok (.lstore_n 3, 1) := by decide +kernel
theorem dX3_bend_16 : decode cX3_bend 16 = .ok (.aload_n 0, 1) := by decide +kernel
theorem dX3_bend_17 : decode cX3_bend 17 = .ok (.getfield 32, 3) := by decide +kernel
theorem dX3_bend_20 : decode cX3_bend 20 = .ok (.iconst 3, 1) := by decide +kernel
theorem dX3_bend_21 : decode cX3_bend 21 = .ok (.laload, 1) := by decide +kernel
theorem dX3_bend_22 : decode cX3_bend 22 = .ok (.lload_n 1, 1) := by decide +kernel
theorem dX3_bend_23 : decode cX3_bend 23 = .ok (.lmul, 1) := by decide +kernel
theorem dX3_bend_24 : decode cX3_bend 24 = .ok (.aload_n 0, 1) := by decide +kernel
theorem dX3_bend_25 : decode cX3_bend 25 = .ok (.getfield 32, 3) := by decide +kernel
theorem dX3_bend_28 : decode cX3_bend 28 = .ok (.iconst 1, 1) := by decide +kernel
theorem dX3_bend_29 : decode cX3_bend 29 = .ok (.laload, 1) := by decide +kernel
theorem dX3_bend_30 : decode cX3_bend 30 = .ok (.lsub, 1) := by decide +kernel
theorem dX3_bend_31 : decode cX3_bend 31 = .ok (.lstore 5, 2) := by decide +kernel
theorem dX3_bend_33 : decode cX3_bend 33 = .ok (.aload_n 0, 1) := by decide +kernel
theorem dX3_bend_34 : decode cX3_bend 34 = .ok (.getfield 32, 3) := by decide +kernel
theorem dX3_bend_37 : decode cX3_bend 37 = .ok (.iconst 5, 1) := by decide +kernel
theorem dX3_bend_38 : decode cX3_bend 38 = .ok (.laload, 1) := by decide +kernel
theorem dX3_bend_39 : decode cX3_bend 39 = .ok (.lload_n 1, 1) := by decide +kernel
theorem dX3_bend_40 : decode cX3_bend 40 = .ok (.lmul, 1) := by decide +kernel
theorem dX3_bend_41 : decode cX3_bend 41 = .ok (.aload_n 0, 1) := by decide +kernel
theorem dX3_bend_42 : decode cX3_bend 42 = .ok (.getfield 32, 3) := by decide +kernel
theorem dX3_bend_45 : decode cX3_bend 45 = .ok (.iconst 4, 1) := by decide +kernel
theorem dX3_bend_46 : decode cX3_bend 46 = .ok (.laload, 1) := by decide +kernel
theorem dX3_bend_47 : decode cX3_bend 47 = .ok (.lsub, 1) := by decide +kernel
theorem dX3_bend_48 : decode cX3_bend 48 = .ok (.lstore 7, 2) := by decide +kernel
theorem dX3_bend_50 : decode cX3_bend 50 = .ok (.aload_n 0, 1) := by decide +kernel
theorem dX3_bend_51 : decode cX3_bend 51 = .ok (.getfield 32, 3) := by decide +kernel
theorem dX3_bend_54 : decode cX3_bend 54 = .ok (.iconst 0, 1) := by decide +kernel
theorem dX3_bend_55 : decode cX3_bend 55 = .ok (.dup2, 1) := by decide +kernel
theorem dX3_bend_56 : decode cX3_bend 56 = .ok (.laload, 1) := by decide +kernel
theorem dX3_bend_57 : decode cX3_bend 57 = .ok (.lload_n 1, 1) := by decide +kernel
theorem dX3_bend_58 : decode cX3_bend 58 = .ok (.lmul, 1) := by decide +kernel
theorem dX3_bend_59 : decode cX3_bend 59 = .ok (.lastore, 1) := by decide +kernel
theorem dX3_bend_60 : decode cX3_bend 60 = .ok (.aload_n 0, 1) := by decide +kernel
theorem dX3_bend_61 : decode cX3_bend 61 = .ok (.getfield 32, 3) := by decide +kernel
theorem dX3_bend_64 : decode cX3_bend 64 = .ok (.iconst 1, 1) := by decide +kernel
theorem dX3_bend_65 : decode cX3_bend 65 = .ok (.dup2, 1) := by decide +kernel
theorem dX3_bend_66 : decode cX3_bend 66 = .ok (.laload, 1) := by decide +kernel
theorem dX3_bend_67 : decode cX3_bend 67 = .ok (.lload_n 1, 1) := by decide +kernel
theorem dX3_bend_68 : decode cX3_bend 68 = .ok (.lmul, 1) := by decide +kernel
theorem dX3_bend_69 : decode cX3_bend 69 = .ok (.lastore, 1) := by decide +kernel
theorem dX3_bend_70 : decode cX3_bend 70 = .ok (.aload_n 0, 1) := by decide +kernel
theorem dX3_bend_71 : decode cX3_bend 71 = .ok (.getfield 32, 3) := by decide +kernel
theorem dX3_bend_74 : decode cX3_bend 74 = .ok (.iconst 4, 1) := by decide +kernel
theorem dX3_bend_75 : decode cX3_bend 75 = .ok (.dup2, 1) := by decide +kernel
theorem dX3_bend_76 : decode cX3_bend 76 = .ok (.laload, 1) := by decide +kernel
theorem dX3_bend_77 : decode cX3_bend 77 = .ok (.lload_n 1, 1) := by decide +kernel
theorem dX3_bend_78 : decode cX3_bend 78 = .ok (.lmul, 1) := by decide +kernel
theorem dX3_bend_79 : decode cX3_bend 79 = .ok (.lastore, 1) := by decide +kernel
theorem dX3_bend_80 : decode cX3_bend 80 = .ok (.aload_n 0, 1) := by decide +kernel
theorem dX3_bend_81 : decode cX3_bend 81 = .ok (.getfield 32, 3) := by decide +kernel
theorem dX3_bend_84 : decode cX3_bend 84 = .ok (.iconst 2, 1) := by decide +kernel
theorem dX3_bend_85 : decode cX3_bend 85 = .ok (.lload_n 3, 1) := by decide +kernel
theorem dX3_bend_86 : decode cX3_bend 86 = .ok (.lastore, 1) := by decide +kernel
theorem dX3_bend_87 : decode cX3_bend 87 = .ok (.aload_n 0, 1) := by decide +kernel
theorem dX3_bend_88 : decode cX3_bend 88 = .ok (.getfield 32, 3) := by decide +kernel
theorem dX3_bend_91 : decode cX3_bend 91 = .ok (.iconst 3, 1) := by decide +kernel
theorem dX3_bend_92 : decode cX3_bend 92 = .ok (.lload 5, 2) := by decide +kernel
theorem dX3_bend_94 : decode cX3_bend 94 = .ok (.lastore, 1) := by decide +kernel
theorem dX3_bend_95 : decode cX3_bend 95 = .ok (.aload_n 0, 1) := by decide +kernel
theorem dX3_bend_96 : decode cX3_bend 96 = .ok (.getfield 32, 3) := by decide +kernel
theorem dX3_bend_99 : decode cX3_bend 99 = .ok (.iconst 5, 1) := by decide +kernel
theorem dX3_bend_100 : decode cX3_bend 100 = .ok (.lload 7, 2) := by decide +kernel
theorem dX3_bend_102 : decode cX3_bend 102 = .ok (.lastore, 1) := by decide +kernel
theorem dX3_bend_103 : decode cX3_bend 103 = .ok (.aload_n 0, 1) := by decide +kernel
theorem dX3_bend_104 : decode cX3_bend 104 = .ok (.dup, 1) := by decide +kernel
theorem dX3_bend_105 : decode cX3_bend 105 = .ok (.getfield 36, 3) := by decide +kernel
theorem dX3_bend_108 : decode cX3_bend 108 = .ok (.lload_n 1, 1) := by decide +kernel
theorem dX3_bend_109 : decode cX3_bend 109 = .ok (.lmul, 1) := by decide +kernel
theorem dX3_bend_110 : decode cX3_bend 110 = .ok (.putfield 36, 3) := by decide +kernel
theorem dX3_bend_113 : decode cX3_bend 113 = .ok (.return_, 1) := by decide +kernel
set_option maxRecDepth 20000 in
theorem ggX3_go_X3_bend : GoodIn wsX3_go wsX3_bend := goodIn_r _ [10, 3, 5, 11, 12, 13, 14, 15, 16, 17, 18, 19] (by decide +kernel) (by decide +kernel)
set_option maxRecDepth 20000 in
theorem gX3_go_X3_bend : GoodIn wsX3_go (wsV RX3 69 RX3 yX3_bend wsX3_bend) := goodIn_app (goodIn_of _ (by decide +kernel)) ggX3_go_X3_bend
theorem dX3_go_0 : decode cX3_go 0 = .ok (.aload_n 0, 1) := by decide +kernel
theorem dX3_go_1 : decode cX3_go 1 = .ok (.getfield 20, 3) := by decide +kernel
theorem dX3_go_4 : decode cX3_go 4 = .ok (.iload_n 1, 1) := by decide +kernel
theorem dX3_go_5 : decode cX3_go 5 = .ok (.iaload, 1) := by decide +kernel
theorem dX3_go_6 : decode cX3_go 6 = .ok (.i2l, 1) := by decide +kernel
theorem dX3_go_7 : decode cX3_go 7 = .ok (.lstore_n 3, 1) := by decide +kernel
theorem dX3_go_8 : decode cX3_go 8 = .ok (.aload_n 0, 1) := by decide +kernel
theorem dX3_go_9 : decode cX3_go 9 = .ok (.getfield 17, 3) := by decide +kernel
theorem dX3_go_12 : decode cX3_go 12 = .ok (.iload_n 1, 1) := by decide +kernel
theorem dX3_go_13 : decode cX3_go 13 = .ok (.iaload, 1) := by decide +kernel
theorem dX3_go_14 : decode cX3_go 14 = .ok (.tableswitch 132 0 3 #[30, 84, 92, 114], 30) := by decide +kernel
theorem dX3_go_44 : decode cX3_go 44 = .ok (.aload_n 0, 1) := by decide +kernel
theorem dX3_go_45 : decode cX3_go 45 = .ok (.getfield 32, 3) := by decide +kernel
theorem dX3_go_48 : decode cX3_go 48 = .ok (.iconst 0, 1) := by decide +kernel
theorem dX3_go_49 : decode cX3_go 49 = .ok (.dup2, 1) := by decide +kernel
theorem dX3_go_50 : decode cX3_go 50 = .ok (.laload, 1) := by decide +kernel
theorem dX3_go_51 : decode cX3_go 51 = .ok (.lload_n 3, 1) := by decide +kernel
theorem dX3_go_52 : decode cX3_go 52 = .ok (.aload_n 0, 1) := by decide +kernel
theorem dX3_go_53 : decode cX3_go 53 = .ok (.getfield 32, 3) := by decide +kernel
theorem dX3_go_56 : decode cX3_go 56 = .ok (.iconst 2, 1) := by decide +kernel
theorem dX3_go_57 : decode cX3_go 57 = .ok (.laload, 1) := by decide +kernel
theorem dX3_go_58 : decode cX3_go 58 = .ok (.lmul, 1) := by decide +kernel
theorem dX3_go_59 : decode cX3_go 59 = .ok (.ladd, 1) := by decide +kernel
theorem dX3_go_60 : decode cX3_go 60 = .ok (.lastore, 1) := by decide +kernel
theorem dX3_go_61 : decode cX3_go 61 = .ok (.aload_n 0, 1) := by decide +kernel
theorem dX3_go_62 : decode cX3_go 62 = .ok (.getfield 32, 3) := by decide +kernel
theorem dX3_go_65 : decode cX3_go 65 = .ok (.iconst 1, 1) := by decide +kernel
theorem dX3_go_66 : decode cX3_go 66 = .ok (.dup2, 1) := by decide +kernel
theorem dX3_go_67 : decode cX3_go 67 = .ok (.laload, 1) := by decide +kernel
theorem dX3_go_68 : decode cX3_go 68 = .ok (.lload_n 3, 1) := by decide +kernel
theorem dX3_go_69 : decode cX3_go 69 = .ok (.aload_n 0, 1) := by decide +kernel
theorem dX3_go_70 : decode cX3_go 70 = .ok (.getfield 32, 3) := by decide +kernel
theorem dX3_go_73 : decode cX3_go 73 = .ok (.iconst 3, 1) := by decide +kernel
theorem dX3_go_74 : decode cX3_go 74 = .ok (.laload, 1) := by decide +kernel
theorem dX3_go_75 : decode cX3_go 75 = .ok (.lmul, 1) := by decide +kernel
theorem dX3_go_76 : decode cX3_go 76 = .ok (.ladd, 1) := by decide +kernel
theorem dX3_go_77 : decode cX3_go 77 = .ok (.lastore, 1) := by decide +kernel
theorem dX3_go_78 : decode cX3_go 78 = .ok (.aload_n 0, 1) := by decide +kernel
theorem dX3_go_79 : decode cX3_go 79 = .ok (.getfield 32, 3) := by decide +kernel
theorem dX3_go_82 : decode cX3_go 82 = .ok (.iconst 4, 1) := by decide +kernel
theorem dX3_go_83 : decode cX3_go 83 = .ok (.dup2, 1) := by decide +kernel
theorem dX3_go_84 : decode cX3_go 84 = .ok (.laload, 1) := by decide +kernel
theorem dX3_go_85 : decode cX3_go 85 = .ok (.lload_n 3, 1) := by decide +kernel
theorem dX3_go_86 : decode cX3_go 86 = .ok (.aload_n 0, 1) := by decide +kernel
theorem dX3_go_87 : decode cX3_go 87 = .ok (.getfield 32, 3) := by decide +kernel
theorem dX3_go_90 : decode cX3_go 90 = .ok (.iconst 5, 1) := by decide +kernel
theorem dX3_go_91 : decode cX3_go 91 = .ok (.laload, 1) := by decide +kernel
theorem dX3_go_92 : decode cX3_go 92 = .ok (.lmul, 1) := by decide +kernel
theorem dX3_go_93 : decode cX3_go 93 = .ok (.ladd, 1) := by decide +kernel
theorem dX3_go_94 : decode cX3_go 94 = .ok (.lastore, 1) := by decide +kernel
theorem dX3_go_95 : decode cX3_go 95 = .ok (.goto 51, 3) := by decide +kernel
theorem dX3_go_98 : decode cX3_go 98 = .ok (.aload_n 0, 1) := by decide +kernel
theorem dX3_go_99 : decode cX3_go 99 = .ok (.lload_n 3, 1) := by decide +kernel
theorem dX3_go_100 : decode cX3_go 100 = .ok (.invokevirtual 69, 3) := by decide +kernel
theorem dX3_go_103 : decode cX3_go 103 = .ok (.goto 43, 3) := by decide +kernel
theorem dX3_go_106 : decode cX3_go 106 = .ok (.aload_n 0, 1) := by decide +kernel
theorem dX3_go_107 : decode cX3_go 107 = .ok (.iload_n 2, 1) := by decide +kernel
theorem dX3_go_108 : decode cX3_go 108 = .ok (.ifCond .ne 7, 3) := by decide +kernel
theorem dX3_go_111 : decode cX3_go 111 = .ok (.lload_n 3, 1) := by decide +kernel
theorem dX3_go_112 : decode cX3_go 112 = .ok (.goto 10, 3) := by decide +kernel
theorem dX3_go_115 : decode cX3_go 115 = .ok (.aload_n 0, 1) := by decide +kernel
theorem dX3_go_116 : decode cX3_go 116 = .ok (.getfield 23, 3) := by decide +kernel
theorem dX3_go_119 : decode cX3_go 119 = .ok (.iload_n 1, 1) := by decide +kernel
theorem dX3_go_120 : decode cX3_go 120 = .ok (.iaload, 1) := by decide +kernel
theorem dX3_go_121 : decode cX3_go 121 = .ok (.i2l, 1) := by decide +kernel
theorem dX3_go_122 : decode cX3_go 122 = .ok (.invokevirtual 69, 3) := by decide +kernel
theorem dX3_go_125 : decode cX3_go 125 = .ok (.goto 21, 3) := by decide +kernel
theorem dX3_go_128 : decode cX3_go 128 = .ok (.aload_n 0, 1) := by decide +kernel
theorem dX3_go_129 : decode cX3_go 129 = .ok (.getfield 32, 3) := by decide +kernel
theorem dX3_go_132 : decode cX3_go 132 = .ok (.iconst 5, 1) := by decide +kernel
theorem dX3_go_133 : decode cX3_go 133 = .ok (.dup2, 1) := by decide +kernel
theorem dX3_go_134 : decode cX3_go 134 = .ok (.laload, 1) := by decide +kernel
theorem dX3_go_135 : decode cX3_go 135 = .ok (.lload_n 3, 1) := by decide +kernel
theorem dX3_go_136 : decode cX3_go 136 = .ok (.aload_n 0, 1) := by decide +kernel
theorem dX3_go_137 : decode cX3_go 137 = .ok (.getfield 36, 3) := by decide +kernel
theorem dX3_go_140 : decode cX3_go 140 = .ok (.lmul, 1) := by decide +kernel
theorem dX3_go_141 : decode cX3_go 141 = .ok (.ladd, 1) := by decide +kernel
theorem dX3_go_142 : decode cX3_go 142 = .ok (.lastore, 1) := by decide +kernel
theorem dX3_go_143 : decode cX3_go 143 = .ok (.goto 3, 3) := by decide +kernel
theorem dX3_go_146 : decode cX3_go 146 = .ok (.aload_n 0, 1) := by decide +kernel
theorem dX3_go_147 : decode cX3_go 147 = .ok (.getfield 36, 3) := by decide +kernel
theorem dX3_go_150 : decode cX3_go 150 = .ok (.lconst 0, 1) := by decide +kernel
theorem dX3_go_151 : decode cX3_go 151 = .ok (.lcmp, 1) := by decide +kernel
theorem dX3_go_152 : decode cX3_go 152 = .ok (.ifCond .le 4, 3) := by decide +kernel
theorem dX3_go_155 : decode cX3_go 155 = .ok (.return_, 1) := by decide +kernel
theorem dX3_go_156 : decode cX3_go 156 = .ok (.aload_n 0, 1) := by decide +kernel
theorem dX3_go_157 : decode cX3_go 157 = .ok (.aload_n 0, 1) := by decide +kernel
theorem dX3_go_158 : decode cX3_go 158 = .ok (.getfield 36, 3) := by decide +kernel
theorem dX3_go_161 : decode cX3_go 161 = .ok (.lneg, 1) := by decide +kernel
theorem dX3_go_162 : decode cX3_go 162 = .ok (.putfield 36, 3) := by decide +kernel
theorem dX3_go_165 : decode cX3_go 165 = .ok (.iconst 0, 1) := by decide +kernel
theorem dX3_go_166 : decode cX3_go 166 = .ok (.istore 5, 2) := by decide +kernel
theorem dX3_go_168 : decode cX3_go 168 = .ok (.iload 5, 2) := by decide +kernel
theorem dX3_go_170 : decode cX3_go 170 = .ok (.bipush 6, 2) := by decide +kernel
theorem dX3_go_172 : decode cX3_go 172 = .ok (.if_icmp .ge 24, 3) := by decide +kernel
theorem dX3_go_175 : decode cX3_go 175 = .ok (.aload_n 0, 1) := by decide +kernel
theorem dX3_go_176 : decode cX3_go 176 = .ok (.getfield 32, 3) := by decide +kernel
theorem dX3_go_179 : decode cX3_go 179 = .ok (.iload 5, 2) := by decide +kernel
theorem dX3_go_181 : decode cX3_go 181 = .ok (.aload_n 0, 1) := by decide +kernel
theorem dX3_go_182 : decode cX3_go 182 = .ok (.getfield 32, 3) := by decide +kernel
theorem dX3_go_185 : decode cX3_go 185 = .ok (.iload 5, 2) := by decide +kernel
theorem dX3_go_187 : decode cX3_go 187 = .ok (.laload, 1) := by decide +kernel
theorem dX3_go_188 : decode cX3_go 188 = .ok (.lneg, 1) := by decide +kernel
theorem dX3_go_189 : decode cX3_go 189 = .ok (.lastore, 1) := by decide +kernel
theorem dX3_go_190 : decode cX3_go 190 = .ok (.iinc 5 1, 3) := by decide +kernel
theorem dX3_go_193 : decode cX3_go 193 = .ok (.goto (-25), 3) := by decide +kernel
theorem dX3_go_196 : decode cX3_go 196 = .ok (.return_, 1) := by decide +kernel
set_option maxRecDepth 20000 in
theorem ggX3_work_X3_begin : GoodIn wsX3_work wsX3_begin := goodIn_r _ [6, 7, 8, 20, 21, 22, 23, 24, 25, 26, 27, 28] (by decide +kernel) (by decide +kernel)
set_option maxRecDepth 20000 in
theorem gX3_work_X3_begin : GoodIn wsX3_work (wsV RX3 73 RX3 yX3_begin wsX3_begin) := goodIn_app (goodIn_of _ (by decide +kernel)) ggX3_work_X3_begin
set_option maxRecDepth 20000 in
theorem ggX3_work_X3_go : GoodIn wsX3_work wsX3_go := goodIn_r _ [12, 13, 14, 7, 15, 8, 16, 17, 18, 5, 19, 20, 21, 22, 23, 24, 25, 26, 27, 28] (by decide +kernel) (by decide +kernel)
set_option maxRecDepth 20000 in
theorem gX3_work_X3_go : GoodIn wsX3_work (wsV RX3 76 RX3 yX3_go wsX3_go) := goodIn_app (goodIn_of _ (by decide +kernel)) ggX3_work_X3_go
theorem dX3_work_0 : decode cX3_work 0 = .ok (.aload_n 0, 1) := by decide +kernel
theorem dX3_work_1 : decode cX3_work 1 = .ok (.invokevirtual 73, 3) := by decide +kernel
theorem dX3_work_4 : decode cX3_work 4 = .ok (.iconst 0, 1) := by decide +kernel
theorem dX3_work_5 : decode cX3_work 5 = .ok (.istore 5, 2) := by decide +kernel
theorem dX3_work_7 : decode cX3_work 7 = .ok (.iload 5, 2) := by decide +kernel
theorem dX3_work_9 : decode cX3_work 9 = .ok (.iload 4, 2) := by decide +kernel
theorem dX3_work_11 : decode cX3_work 11 = .ok (.if_icmp .ge 30, 3) := by decide +kernel
theorem dX3_work_14 : decode cX3_work 14 = .ok (.aload_n 0, 1) := by decide +kernel
theorem dX3_work_15 : decode cX3_work 15 = .ok (.bipush 8, 2) := by decide +kernel
theorem dX3_work_17 : decode cX3_work 17 = .ok (.iload_n 1, 1) := by decide +kernel
theorem dX3_work_18 : decode cX3_work 18 = .ok (.imul, 1) := by decide +kernel
theorem dX3_work_19 : decode cX3_work 19 = .ok (.iload_n 3, 1) := by decide +kernel
theorem dX3_work_20 : decode cX3_work 20 = .ok (.iload 5, 2) := by decide +kernel
theorem dX3_work_22 : decode cX3_work 22 = .ok (.iadd, 1) := by decide +kernel
theorem dX3_work_23 : decode cX3_work 23 = .ok (.aload_n 0, 1) := by decide +kernel
theorem dX3_work_24 : decode cX3_work 24 = .ok (.getfield 13, 3) := by decide +kernel
theorem dX3_work_27 : decode cX3_work 27 = .ok (.iload_n 1, 1) := by decide +kernel
theorem dX3_work_28 : decode cX3_work 28 = .ok (.iaload, 1) := by decide +kernel
theorem dX3_work_29 : decode cX3_work 29 = .ok (.irem, 1) := by decide +kernel
theorem dX3_work_30 : decode cX3_work 30 = .ok (.iadd, 1) := by decide +kernel
theorem dX3_work_31 : decode cX3_work 31 = .ok (.iload_n 2, 1) := by decide +kernel
theorem dX3_work_32 : decode cX3_work 32 = .ok (.invokevirtual 76, 3) := by decide +kernel
theorem dX3_work_35 : decode cX3_work 35 = .ok (.iinc 5 1, 3) := by decide +kernel
theorem dX3_work_38 : decode cX3_work 38 = .ok (.goto (-31), 3) := by decide +kernel
theorem dX3_work_41 : decode cX3_work 41 = .ok (.return_, 1) := by decide +kernel
theorem dX3_divisor_0 : decode cX3_divisor 0 = .ok (.lload_n 1, 1) := by decide +kernel
theorem dX3_divisor_1 : decode cX3_divisor 1 = .ok (.lconst 0, 1) := by decide +kernel
theorem dX3_divisor_2 : decode cX3_divisor 2 = .ok (.lcmp, 1) := by decide +kernel
theorem dX3_divisor_3 : decode cX3_divisor 3 = .ok (.ifCond .ge 8, 3) := by decide +kernel
theorem dX3_divisor_6 : decode cX3_divisor 6 = .ok (.lload_n 1, 1) := by decide +kernel
theorem dX3_divisor_7 : decode cX3_divisor 7 = .ok (.lneg, 1) := by decide +kernel
theorem dX3_divisor_8 : decode cX3_divisor 8 = .ok (.goto 4, 3) := by decide +kernel
theorem dX3_divisor_11 : decode cX3_divisor 11 = .ok (.lload_n 1, 1) := by decide +kernel
theorem dX3_divisor_12 : decode cX3_divisor 12 = .ok (.lstore 5, 2) := by decide +kernel
theorem dX3_divisor_14 : decode cX3_divisor 14 = .ok (.lload_n 3, 1) := by decide +kernel
theorem dX3_divisor_15 : decode cX3_divisor 15 = .ok (.lconst 0, 1) := by decide +kernel
theorem dX3_divisor_16 : decode cX3_divisor 16 = .ok (.lcmp, 1) := by decide +kernel
theorem dX3_divisor_17 : decode cX3_divisor 17 = .ok (.ifCond .ge 8, 3) := by decide +kernel
theorem dX3_divisor_20 : decode cX3_divisor 20 = .ok (.lload_n 3, 1) := by decide +kernel
theorem dX3_divisor_21 : decode cX3_divisor 21 = .ok (.lneg, 1) := by decide +kernel
theorem dX3_divisor_22 : decode cX3_divisor 22 = .ok (.goto 4, 3) := by decide +kernel
theorem dX3_divisor_25 : decode cX3_divisor 25 = .ok (.lload_n 3, 1) := by decide +kernel
theorem dX3_divisor_26 : decode cX3_divisor 26 = .ok (.lstore 7, 2) := by decide +kernel
theorem dX3_divisor_28 : decode cX3_divisor 28 = .ok (.lload 7, 2) := by decide +kernel
theorem dX3_divisor_30 : decode cX3_divisor 30 = .ok (.lconst 0, 1) := by decide +kernel
theorem dX3_divisor_31 : decode cX3_divisor 31 = .ok (.lcmp, 1) := by decide +kernel
theorem dX3_divisor_32 : decode cX3_divisor 32 = .ok (.ifCond .eq 21, 3) := by decide +kernel
theorem dX3_divisor_35 : decode cX3_divisor 35 = .ok (.lload 5, 2) := by decide +kernel
theorem dX3_divisor_37 : decode cX3_divisor 37 = .ok (.lload 7, 2) := by decide +kernel
theorem dX3_divisor_39 : decode cX3_divisor 39 = .ok (.lrem, 1) := by decide +kernel
theorem dX3_divisor_40 : decode cX3_divisor 40 = .ok (.lstore 9, 2) := by decide +kernel
theorem dX3_divisor_42 : decode cX3_divisor 42 = .ok (.lload 7, 2) := by decide +kernel
theorem dX3_divisor_44 : decode cX3_divisor 44 = .ok (.lstore 5, 2) := by decide +kernel
theorem dX3_divisor_46 : decode cX3_divisor 46 = .ok (.lload 9, 2) := by decide +kernel
theorem dX3_divisor_48 : decode cX3_divisor 48 = .ok (.lstore 7, 2) := by decide +kernel
theorem dX3_divisor_50 : decode cX3_divisor 50 = .ok (.goto (-22), 3) := by decide +kernel
theorem dX3_divisor_53 : decode cX3_divisor 53 = .ok (.lload 5, 2) := by decide +kernel
theorem dX3_divisor_55 : decode cX3_divisor 55 = .ok (.lreturn, 1) := by decide +kernel
set_option maxRecDepth 20000 in
theorem ggX3_lowest_X3_divisor : GoodIn wsX3_lowest wsX3_divisor := goodIn_r _ [5] (by decide +kernel) (by decide +kernel)
set_option maxRecDepth 20000 in
theorem gX3_lowest_X3_divisor : GoodIn wsX3_lowest (wsV RX3 80 RX3 yX3_divisor wsX3_divisor) := goodIn_app (goodIn_of _ (by decide +kernel)) ggX3_lowest_X3_divisor
theorem dX3_lowest_0 : decode cX3_lowest 0 = .ok (.lload_n 1, 1) := by decide +kernel
theorem dX3_lowest_1 : decode cX3_lowest 1 = .ok (.lconst 0, 1) := by decide +kernel
theorem dX3_lowest_2 : decode cX3_lowest 2 = .ok (.lcmp, 1) := by decide +kernel
theorem dX3_lowest_3 : decode cX3_lowest 3 = .ok (.ifCond .ne 14, 3) := by decide +kernel
theorem dX3_lowest_6 : decode cX3_lowest 6 = .ok (.iload 5, 2) := by decide +kernel
theorem dX3_lowest_8 : decode cX3_lowest 8 = .ok (.ifCond .ne 7, 3) := by decide +kernel
theorem dX3_lowest_11 : decode cX3_lowest 11 = .ok (.lconst 0, 1) := by decide +kernel
theorem dX3_lowest_12 : decode cX3_lowest 12 = .ok (.goto 4, 3) := by decide +kernel
theorem dX3_lowest_15 : decode cX3_lowest 15 = .ok (.lconst 1, 1) := by decide +kernel
theorem dX3_lowest_16 : decode cX3_lowest 16 = .ok (.lreturn, 1) := by decide +kernel
theorem dX3_lowest_17 : decode cX3_lowest 17 = .ok (.lload_n 3, 1) := by decide +kernel
theorem dX3_lowest_18 : decode cX3_lowest 18 = .ok (.lconst 0, 1) := by decide +kernel
theorem dX3_lowest_19 : decode cX3_lowest 19 = .ok (.lcmp, 1) := by decide +kernel
theorem dX3_lowest_20 : decode cX3_lowest 20 = .ok (.ifCond .ge 13, 3) := by decide +kernel
theorem dX3_lowest_23 : decode cX3_lowest 23 = .ok (.aload_n 0, 1) := by decide +kernel
theorem dX3_lowest_24 : decode cX3_lowest 24 = .ok (.lload_n 1, 1) := by decide +kernel
theorem dX3_lowest_25 : decode cX3_lowest 25 = .ok (.lload_n 3, 1) := by decide +kernel
theorem dX3_lowest_26 : decode cX3_lowest 26 = .ok (.invokevirtual 80, 3) := by decide +kernel
theorem dX3_lowest_29 : decode cX3_lowest 29 = .ok (.lneg, 1) := by decide +kernel
theorem dX3_lowest_30 : decode cX3_lowest 30 = .ok (.goto 9, 3) := by decide +kernel
theorem dX3_lowest_33 : decode cX3_lowest 33 = .ok (.aload_n 0, 1) := by decide +kernel
theorem dX3_lowest_34 : decode cX3_lowest 34 = .ok (.lload_n 1, 1) := by decide +kernel
theorem dX3_lowest_35 : decode cX3_lowest 35 = .ok (.lload_n 3, 1) := by decide +kernel
theorem dX3_lowest_36 : decode cX3_lowest 36 = .ok (.invokevirtual 80, 3) := by decide +kernel
theorem dX3_lowest_39 : decode cX3_lowest 39 = .ok (.lstore 6, 2) := by decide +kernel
theorem dX3_lowest_41 : decode cX3_lowest 41 = .ok (.iload 5, 2) := by decide +kernel
theorem dX3_lowest_43 : decode cX3_lowest 43 = .ok (.ifCond .ne 10, 3) := by decide +kernel
theorem dX3_lowest_46 : decode cX3_lowest 46 = .ok (.lload_n 1, 1) := by decide +kernel
theorem dX3_lowest_47 : decode cX3_lowest 47 = .ok (.lload 6, 2) := by decide +kernel
theorem dX3_lowest_49 : decode cX3_lowest 49 = .ok (.ldiv, 1) := by decide +kernel
theorem dX3_lowest_50 : decode cX3_lowest 50 = .ok (.goto 7, 3) := by decide +kernel
theorem dX3_lowest_53 : decode cX3_lowest 53 = .ok (.lload_n 3, 1) := by decide +kernel
theorem dX3_lowest_54 : decode cX3_lowest 54 = .ok (.lload 6, 2) := by decide +kernel
theorem dX3_lowest_56 : decode cX3_lowest 56 = .ok (.ldiv, 1) := by decide +kernel
theorem dX3_lowest_57 : decode cX3_lowest 57 = .ok (.lreturn, 1) := by decide +kernel
set_option maxRecDepth 20000 in
theorem ggX3_table_X3_isBench : GoodIn wsX3_table wsX3_isBench := goodIn_r _ [9, 10, 11, 12, 13, 8, 14, 46, 47, 48, 49, 50, 51, 52, 53, 54] (by decide +kernel) (by decide +kernel)
set_option maxRecDepth 20000 in
theorem gX3_table_X3_isBench : GoodIn wsX3_table (wsV RX3 44 RX3 yX3_isBench wsX3_isBench) := goodIn_app (goodIn_of _ (by decide +kernel)) ggX3_table_X3_isBench
set_option maxRecDepth 20000 in
theorem ggX3_table_X3_isWay : GoodIn wsX3_table wsX3_isWay := goodIn_r _ [18] (by decide +kernel) (by decide +kernel)
set_option maxRecDepth 20000 in
theorem gX3_table_X3_isWay : GoodIn wsX3_table (wsV RX3 84 RX3 yX3_isWay wsX3_isWay) := goodIn_app (goodIn_of _ (by decide +kernel)) ggX3_table_X3_isWay
set_option maxRecDepth 20000 in
theorem ggX3_table_X3_in : GoodIn wsX3_table wsX3_in := goodIn_r _ [14] (by decide +kernel) (by decide +kernel)
set_option maxRecDepth 20000 in
theorem gX3_table_X3_in : GoodIn wsX3_table (wsV RX3 40 RX3 yX3_in wsX3_in) := goodIn_app (goodIn_of _ (by decide +kernel)) ggX3_table_X3_in
set_option maxRecDepth 20000 in
theorem ggX3_table_X3_work : GoodIn wsX3_table wsX3_work := goodIn_r _ [22, 2, 23, 24, 25, 8, 26, 3, 4, 27, 28, 29, 30, 31, 32, 33, 34, 35, 36, 37, 46, 47, 48, 49, 50, 51, 52, 53, 54] (by decide +kernel) (by decide +kernel)
set_option maxRecDepth 20000 in
theorem gX3_table_X3_work : GoodIn wsX3_table (wsV RX3 89 RX3 yX3_work wsX3_work) := goodIn_app (goodIn_of _ (by decide +kernel)) ggX3_table_X3_work
set_option maxRecDepth 20000 in
theorem ggX3_table_X3_lowest : GoodIn wsX3_table wsX3_lowest := goodIn_r _ [41, 42, 43, 44, 8, 45] (by decide +kernel) (by decide +kernel)
set_option maxRecDepth 20000 in
theorem gX3_table_X3_lowest : GoodIn wsX3_table (wsV RX3 92 RX3 yX3_lowest wsX3_lowest) := goodIn_app (goodIn_of _ (by decide +kernel)) ggX3_table_X3_lowest
theorem dX3_table_0 : decode cX3_table 0 = .ok (.aload_n 0, 1) := by decide +kernel
theorem dX3_table_1 : decode cX3_table 1 = .ok (.iload_n 1, 1) := by decide +kernel
theorem dX3_table_2 : decode cX3_table 2 = .ok (.invokevirtual 44, 3) := by decide +kernel
theorem dX3_table_5 : decode cX3_table 5 = .ok (.ifCond .eq 32, 3) := by decide +kernel
theorem dX3_table_8 : decode cX3_table 8 = .ok (.aload_n 0, 1) := by decide +kernel
theorem dX3_table_9 : decode cX3_table 9 = .ok (.iload_n 2, 1) := by decide +kernel
theorem dX3_table_10 : decode cX3_table 10 = .ok (.invokevirtual 84, 3) := by decide +kernel
theorem dX3_table_13 : decode cX3_table 13 = .ok (.ifCond .eq 24, 3) := by decide +kernel
theorem dX3_table_16 : decode cX3_table 16 = .ok (.aload_n 0, 1) := by decide +kernel
theorem dX3_table_17 : decode cX3_table 17 = .ok (.iload_n 3, 1) := by decide +kernel
theorem dX3_table_18 : decode cX3_table 18 = .ok (.iconst 0, 1) := by decide +kernel
theorem dX3_table_19 : decode cX3_table 19 = .ok (.iconst 5, 1) := by decide +kernel
theorem dX3_table_20 : decode cX3_table 20 = .ok (.invokevirtual 40, 3) := by decide +kernel
theorem dX3_table_23 : decode cX3_table 23 = .ok (.ifCond .eq 14, 3) := by decide +kernel
theorem dX3_table_26 : decode cX3_table 26 = .ok (.aload_n 0, 1) := by decide +kernel
theorem dX3_table_27 : decode cX3_table 27 = .ok (.iload 4, 2) := by decide +kernel
theorem dX3_table_29 : decode cX3_table 29 = .ok (.iconst 0, 1) := by decide +kernel
theorem dX3_table_30 : decode cX3_table 30 = .ok (.iconst 1, 1) := by decide +kernel
theorem dX3_table_31 : decode cX3_table 31 = .ok (.invokevirtual 40, 3) := by decide +kernel
theorem dX3_table_34 : decode cX3_table 34 = .ok (.ifCond .ne 7, 3) := by decide +kernel
theorem dX3_table_37 : decode cX3_table 37 = .ok (.ldc2_w 87, 3) := by decide +kernel
theorem dX3_table_40 : decode cX3_table 40 = .ok (.lreturn, 1) := by decide +kernel
theorem dX3_table_41 : decode cX3_table 41 = .ok (.aload_n 0, 1) := by decide +kernel
theorem dX3_table_42 : decode cX3_table 42 = .ok (.iload_n 1, 1) := by decide +kernel
theorem dX3_table_43 : decode cX3_table 43 = .ok (.iload_n 2, 1) := by decide +kernel
theorem dX3_table_44 : decode cX3_table 44 = .ok (.iconst 0, 1) := by decide +kernel
theorem dX3_table_45 : decode cX3_table 45 = .ok (.aload_n 0, 1) := by decide +kernel
theorem dX3_table_46 : decode cX3_table 46 = .ok (.getfield 13, 3) := by decide +kernel
theorem dX3_table_49 : decode cX3_table 49 = .ok (.iload_n 1, 1) := by decide +kernel
theorem dX3_table_50 : decode cX3_table 50 = .ok (.iaload, 1) := by decide +kernel
theorem dX3_table_51 : decode cX3_table 51 = .ok (.invokevirtual 89, 3) := by decide +kernel
theorem dX3_table_54 : decode cX3_table 54 = .ok (.aload_n 0, 1) := by decide +kernel
theorem dX3_table_55 : decode cX3_table 55 = .ok (.aload_n 0, 1) := by decide +kernel
theorem dX3_table_56 : decode cX3_table 56 = .ok (.getfield 32, 3) := by decide +kernel
theorem dX3_table_59 : decode cX3_table 59 = .ok (.iload_n 3, 1) := by decide +kernel
theorem dX3_table_60 : decode cX3_table 60 = .ok (.laload, 1) := by decide +kernel
theorem dX3_table_61 : decode cX3_table 61 = .ok (.aload_n 0, 1) := by decide +kernel
theorem dX3_table_62 : decode cX3_table 62 = .ok (.getfield 36, 3) := by decide +kernel
theorem dX3_table_65 : decode cX3_table 65 = .ok (.iload 4, 2) := by decide +kernel
theorem dX3_table_67 : decode cX3_table 67 = .ok (.invokevirtual 92, 3) := by decide +kernel
theorem dX3_table_70 : decode cX3_table 70 = .ok (.lreturn, 1) := by decide +kernel
set_option maxRecDepth 20000 in
theorem ggX3_isRay_X3_in : GoodIn wsX3_isRay wsX3_in := goodIn_r _ [5] (by decide +kernel) (by decide +kernel)
set_option maxRecDepth 20000 in
theorem gX3_isRay_X3_in : GoodIn wsX3_isRay (wsV RX3 40 RX3 yX3_in wsX3_in) := goodIn_app (goodIn_of _ (by decide +kernel)) ggX3_isRay_X3_in
theorem dX3_isRay_0 : decode cX3_isRay 0 = .ok (.aload_n 0, 1) := by decide +kernel
theorem dX3_isRay_1 : decode cX3_isRay 1 = .ok (.iload_n 1, 1) := by decide +kernel
theorem dX3_isRay_2 : decode cX3_isRay 2 = .ok (.sipush (-1000), 3) := by decide +kernel
theorem dX3_isRay_5 : decode cX3_isRay 5 = .ok (.sipush 1000, 3) := by decide +kernel
theorem dX3_isRay_8 : decode cX3_isRay 8 = .ok (.invokevirtual 40, 3) := by decide +kernel
theorem dX3_isRay_11 : decode cX3_isRay 11 = .ok (.ifCond .eq 21, 3) := by decide +kernel
theorem dX3_isRay_14 : decode cX3_isRay 14 = .ok (.aload_n 0, 1) := by decide +kernel
theorem dX3_isRay_15 : decode cX3_isRay 15 = .ok (.iload_n 2, 1) := by decide +kernel
theorem dX3_isRay_16 : decode cX3_isRay 16 = .ok (.sipush (-1000), 3) := by decide +kernel
theorem dX3_isRay_19 : decode cX3_isRay 19 = .ok (.sipush 1000, 3) := by decide +kernel
theorem dX3_isRay_22 : decode cX3_isRay 22 = .ok (.invokevirtual 40, 3) := by decide +kernel
theorem dX3_isRay_25 : decode cX3_isRay 25 = .ok (.ifCond .eq 7, 3) := by decide +kernel
theorem dX3_isRay_28 : decode cX3_isRay 28 = .ok (.iconst 1, 1) := by decide +kernel
theorem dX3_isRay_29 : decode cX3_isRay 29 = .ok (.goto 4, 3) := by decide +kernel
theorem dX3_isRay_32 : decode cX3_isRay 32 = .ok (.iconst 0, 1) := by decide +kernel
theorem dX3_isRay_33 : decode cX3_isRay 33 = .ok (.ireturn, 1) := by decide +kernel
set_option maxRecDepth 20000 in
theorem ggX3_ray_X3_isBench : GoodIn wsX3_ray wsX3_isBench := goodIn_r _ [9, 10, 11, 12, 13, 8, 14, 50, 51, 52, 53, 54, 55, 56, 57, 58] (by decide +kernel) (by decide +kernel)
set_option maxRecDepth 20000 in
theorem gX3_ray_X3_isBench : GoodIn wsX3_ray (wsV RX3 44 RX3 yX3_isBench wsX3_isBench) := goodIn_app (goodIn_of _ (by decide +kernel)) ggX3_ray_X3_isBench
set_option maxRecDepth 20000 in
theorem ggX3_ray_X3_isWay : GoodIn wsX3_ray wsX3_isWay := goodIn_r _ [18] (by decide +kernel) (by decide +kernel)
set_option maxRecDepth 20000 in
theorem gX3_ray_X3_isWay : GoodIn wsX3_ray (wsV RX3 84 RX3 yX3_isWay wsX3_isWay) := goodIn_app (goodIn_of _ (by decide +kernel)) ggX3_ray_X3_isWay
set_option maxRecDepth 20000 in
theorem ggX3_ray_X3_isRay : GoodIn wsX3_ray wsX3_isRay := goodIn_r _ [22, 11, 12, 13, 8, 14] (by decide +kernel) (by decide +kernel)
set_option maxRecDepth 20000 in
theorem gX3_ray_X3_isRay : GoodIn wsX3_ray (wsV RX3 96 RX3 yX3_isRay wsX3_isRay) := goodIn_app (goodIn_of _ (by decide +kernel)) ggX3_ray_X3_isRay
set_option maxRecDepth 20000 in
theorem ggX3_ray_X3_in : GoodIn wsX3_ray wsX3_in := goodIn_r _ [14] (by decide +kernel) (by decide +kernel)
set_option maxRecDepth 20000 in
theorem gX3_ray_X3_in : GoodIn wsX3_ray (wsV RX3 40 RX3 yX3_in wsX3_in) := goodIn_app (goodIn_of _ (by decide +kernel)) ggX3_ray_X3_in
set_option maxRecDepth 20000 in
theorem ggX3_ray_X3_work : GoodIn wsX3_ray wsX3_work := goodIn_r _ [26, 1, 27, 28, 29, 8, 30, 3, 4, 31, 32, 33, 34, 35, 36, 37, 38, 39, 40, 41, 50, 51, 52, 53, 54, 55, 56, 57, 58] (by decide +kernel) (by decide +kernel)
set_option maxRecDepth 20000 in
theorem gX3_ray_X3_work : GoodIn wsX3_ray (wsV RX3 89 RX3 yX3_work wsX3_work) := goodIn_app (goodIn_of _ (by decide +kernel)) ggX3_ray_X3_work
set_option maxRecDepth 20000 in
theorem ggX3_ray_X3_lowest : GoodIn wsX3_ray wsX3_lowest := goodIn_r _ [45, 46, 47, 48, 8, 49] (by decide +kernel) (by decide +kernel)
set_option maxRecDepth 20000 in
theorem gX3_ray_X3_lowest : GoodIn wsX3_ray (wsV RX3 92 RX3 yX3_lowest wsX3_lowest) := goodIn_app (goodIn_of _ (by decide +kernel)) ggX3_ray_X3_lowest
theorem dX3_ray_0 : decode cX3_ray 0 = .ok (.aload_n 0, 1) := by decide +kernel
theorem dX3_ray_1 : decode cX3_ray 1 = .ok (.iload_n 1, 1) := by decide +kernel
theorem dX3_ray_2 : decode cX3_ray 2 = .ok (.invokevirtual 44, 3) := by decide +kernel
theorem dX3_ray_5 : decode cX3_ray 5 = .ok (.ifCond .eq 59, 3) := by decide +kernel
theorem dX3_ray_8 : decode cX3_ray 8 = .ok (.aload_n 0, 1) := by decide +kernel
theorem dX3_ray_9 : decode cX3_ray 9 = .ok (.iload_n 2, 1) := by decide +kernel
theorem dX3_ray_10 : decode cX3_ray 10 = .ok (.invokevirtual 84, 3) := by decide +kernel
theorem dX3_ray_13 : decode cX3_ray 13 = .ok (.ifCond .eq 51, 3) := by decide +kernel
theorem dX3_ray_16 : decode cX3_ray 16 = .ok (.aload_n 0, 1) := by decide +kernel
theorem dX3_ray_17 : decode cX3_ray 17 = .ok (.iload_n 3, 1) := by decide +kernel
theorem dX3_ray_18 : decode cX3_ray 18 = .ok (.iload 4, 2) := by decide +kernel
theorem dX3_ray_20 : decode cX3_ray 20 = .ok (.invokevirtual 96, 3) := by decide +kernel
theorem dX3_ray_23 : decode cX3_ray 23 = .ok (.ifCond .eq 41, 3) := by decide +kernel
theorem dX3_ray_26 : decode cX3_ray 26 = .ok (.aload_n 0, 1) := by decide +kernel
theorem dX3_ray_27 : decode cX3_ray 27 = .ok (.iload 5, 2) := by decide +kernel
theorem dX3_ray_29 : decode cX3_ray 29 = .ok (.iconst 0, 1) := by decide +kernel
theorem dX3_ray_30 : decode cX3_ray 30 = .ok (.aload_n 0, 1) := by decide +kernel
theorem dX3_ray_31 : decode cX3_ray 31 = .ok (.getfield 13, 3) := by decide +kernel
theorem dX3_ray_34 : decode cX3_ray 34 = .ok (.iload_n 1, 1) := by decide +kernel
theorem dX3_ray_35 : decode cX3_ray 35 = .ok (.iaload, 1) := by decide +kernel
theorem dX3_ray_36 : decode cX3_ray 36 = .ok (.invokevirtual 40, 3) := by decide +kernel
theorem dX3_ray_39 : decode cX3_ray 39 = .ok (.ifCond .eq 25, 3) := by decide +kernel
theorem dX3_ray_42 : decode cX3_ray 42 = .ok (.aload_n 0, 1) := by decide +kernel
theorem dX3_ray_43 : decode cX3_ray 43 = .ok (.iload 6, 2) := by decide +kernel
theorem dX3_ray_45 : decode cX3_ray 45 = .ok (.iconst 0, 1) := by decide +kernel
theorem dX3_ray_46 : decode cX3_ray 46 = .ok (.iconst 1, 1) := by decide +kernel
theorem dX3_ray_47 : decode cX3_ray 47 = .ok (.invokevirtual 40, 3) := by decide +kernel
theorem dX3_ray_50 : decode cX3_ray 50 = .ok (.ifCond .eq 14, 3) := by decide +kernel
theorem dX3_ray_53 : decode cX3_ray 53 = .ok (.aload_n 0, 1) := by decide +kernel
theorem dX3_ray_54 : decode cX3_ray 54 = .ok (.iload 7, 2) := by decide +kernel
theorem dX3_ray_56 : decode cX3_ray 56 = .ok (.iconst 0, 1) := by decide +kernel
theorem dX3_ray_57 : decode cX3_ray 57 = .ok (.iconst 1, 1) := by decide +kernel
theorem dX3_ray_58 : decode cX3_ray 58 = .ok (.invokevirtual 40, 3) := by decide +kernel
theorem dX3_ray_61 : decode cX3_ray 61 = .ok (.ifCond .ne 7, 3) := by decide +kernel
theorem dX3_ray_64 : decode cX3_ray 64 = .ok (.ldc2_w 87, 3) := by decide +kernel
theorem dX3_ray_67 : decode cX3_ray 67 = .ok (.lreturn, 1) := by decide +kernel
theorem dX3_ray_68 : decode cX3_ray 68 = .ok (.aload_n 0, 1) := by decide +kernel
theorem dX3_ray_69 : decode cX3_ray 69 = .ok (.iload_n 1, 1) := by decide +kernel
theorem dX3_ray_70 : decode cX3_ray 70 = .ok (.iload_n 2, 1) := by decide +kernel
theorem dX3_ray_71 : decode cX3_ray 71 = .ok (.iconst 0, 1) := by decide +kernel
theorem dX3_ray_72 : decode cX3_ray 72 = .ok (.iload 5, 2) := by decide +kernel
theorem dX3_ray_74 : decode cX3_ray 74 = .ok (.invokevirtual 89, 3) := by decide +kernel
theorem dX3_ray_77 : decode cX3_ray 77 = .ok (.aload_n 0, 1) := by decide +kernel
theorem dX3_ray_78 : decode cX3_ray 78 = .ok (.iload 6, 2) := by decide +kernel
theorem dX3_ray_80 : decode cX3_ray 80 = .ok (.ifCond .ne 33, 3) := by decide +kernel
theorem dX3_ray_83 : decode cX3_ray 83 = .ok (.aload_n 0, 1) := by decide +kernel
theorem dX3_ray_84 : decode cX3_ray 84 = .ok (.getfield 32, 3) := by decide +kernel
theorem dX3_ray_87 : decode cX3_ray 87 = .ok (.iconst 0, 1) := by decide +kernel
theorem dX3_ray_88 : decode cX3_ray 88 = .ok (.laload, 1) := by decide +kernel
theorem dX3_ray_89 : decode cX3_ray 89 = .ok (.iload_n 3, 1) := by decide +kernel
theorem dX3_ray_90 : decode cX3_ray 90 = .ok (.i2l, 1) := by decide +kernel
theorem dX3_ray_91 : decode cX3_ray 91 = .ok (.lmul, 1) := by decide +kernel
theorem dX3_ray_92 : decode cX3_ray 92 = .ok (.aload_n 0, 1) := by decide +kernel
theorem dX3_ray_93 : decode cX3_ray 93 = .ok (.getfield 32, 3) := by decide +kernel
theorem dX3_ray_96 : decode cX3_ray 96 = .ok (.iconst 1, 1) := by decide +kernel
theorem dX3_ray_97 : decode cX3_ray 97 = .ok (.laload, 1) := by decide +kernel
theorem dX3_ray_98 : decode cX3_ray 98 = .ok (.iload 4, 2) := by decide +kernel
theorem dX3_ray_100 : decode cX3_ray 100 = .ok (.i2l, 1) := by decide +kernel
theorem dX3_ray_101 : decode cX3_ray 101 = .ok (.lmul, 1) := by decide +kernel
theorem dX3_ray_102 : decode cX3_ray 102 = .ok (.ladd, 1) := by decide +kernel
theorem dX3_ray_103 : decode cX3_ray 103 = .ok (.aload_n 0, 1) := by decide +kernel
theorem dX3_ray_104 : decode cX3_ray 104 = .ok (.getfield 32, 3) := by decide +kernel
theorem dX3_ray_107 : decode cX3_ray 107 = .ok (.iconst 4, 1) := by decide +kernel
theorem dX3_ray_108 : decode cX3_ray 108 = .ok (.laload, 1) := by decide +kernel
theorem dX3_ray_109 : decode cX3_ray 109 = .ok (.ladd, 1) := by decide +kernel
theorem dX3_ray_110 : decode cX3_ray 110 = .ok (.goto 30, 3) := by decide +kernel
theorem dX3_ray_113 : decode cX3_ray 113 = .ok (.aload_n 0, 1) := by decide +kernel
theorem dX3_ray_114 : decode cX3_ray 114 = .ok (.getfield 32, 3) := by decide +kernel
theorem dX3_ray_117 : decode cX3_ray 117 = .ok (.iconst 2, 1) := by decide +kernel
theorem dX3_ray_118 : decode cX3_ray 118 = .ok (.laload, 1) := by decide +kernel
theorem dX3_ray_119 : decode cX3_ray 119 = .ok (.iload_n 3, 1) := by decide +kernel
theorem dX3_ray_120 : decode cX3_ray 120 = .ok (.i2l, 1) := by decide +kernel
theorem dX3_ray_121 : decode cX3_ray 121 = .ok (.lmul, 1) := by decide +kernel
theorem dX3_ray_122 : decode cX3_ray 122 = .ok (.aload_n 0, 1) := by decide +kernel
theorem dX3_ray_123 : decode cX3_ray 123 = .ok (.getfield 32, 3) := by decide +kernel
theorem dX3_ray_126 : decode cX3_ray 126 = .ok (.iconst 3, 1) := by decide +kernel
theorem dX3_ray_127 : decode cX3_ray 127 = .ok (.laload, 1) := by decide +kernel
theorem dX3_ray_128 : decode cX3_ray 128 = .ok (.iload 4, 2) := by decide +kernel
theorem dX3_ray_130 : decode cX3_ray 130 = .ok (.i2l, 1) := by decide +kernel
theorem dX3_ray_131 : decode cX3_ray 131 = .ok (.lmul, 1) := by decide +kernel
theorem dX3_ray_132 : decode cX3_ray 132 = .ok (.ladd, 1) := by decide +kernel
theorem dX3_ray_133 : decode cX3_ray 133 = .ok (.aload_n 0, 1) := by decide +kernel
theorem dX3_ray_134 : decode cX3_ray 134 = .ok (.getfield 32, 3) := by decide +kernel
theorem dX3_ray_137 : decode cX3_ray 137 = .ok (.iconst 5, 1) := by decide +kernel
theorem dX3_ray_138 : decode cX3_ray 138 = .ok (.laload, 1) := by decide +kernel
theorem dX3_ray_139 : decode cX3_ray 139 = .ok (.ladd, 1) := by decide +kernel
theorem dX3_ray_140 : decode cX3_ray 140 = .ok (.aload_n 0, 1) := by decide +kernel
theorem dX3_ray_141 : decode cX3_ray 141 = .ok (.getfield 36, 3) := by decide +kernel
theorem dX3_ray_144 : decode cX3_ray 144 = .ok (.iload 7, 2) := by decide +kernel
theorem dX3_ray_146 : decode cX3_ray 146 = .ok (.invokevirtual 92, 3) := by decide +kernel
theorem dX3_ray_149 : decode cX3_ray 149 = .ok (.lreturn, 1) := by decide +kernel
set_option maxRecDepth 20000 in
theorem ggX3_stopped_X3_begin : GoodIn wsX3_stopped wsX3_begin := goodIn_r _ [10, 2, 5, 20, 21, 22, 23, 24, 25, 26, 27, 28] (by decide +kernel) (by decide +kernel)
set_option maxRecDepth 20000 in
theorem gX3_stopped_X3_begin : GoodIn wsX3_stopped (wsV RX3 73 RX3 yX3_begin wsX3_begin) := goodIn_app (goodIn_of _ (by decide +kernel)) ggX3_stopped_X3_begin
set_option maxRecDepth 20000 in
theorem ggX3_stopped_X3_go : GoodIn wsX3_stopped wsX3_go := goodIn_r _ [14, 4, 3, 2, 15, 5, 16, 17, 18, 9, 19, 20, 21, 22, 23, 24, 25, 26, 27, 28] (by decide +kernel) (by decide +kernel)
set_option maxRecDepth 20000 in
theorem gX3_stopped_X3_go : GoodIn wsX3_stopped (wsV RX3 76 RX3 yX3_go wsX3_go) := goodIn_app (goodIn_of _ (by decide +kernel)) ggX3_stopped_X3_go
theorem dX3_stopped_0 : decode cX3_stopped 0 = .ok (.aload_n 0, 1) := by decide +kernel
theorem dX3_stopped_1 : decode cX3_stopped 1 = .ok (.invokevirtual 73, 3) := by decide +kernel
theorem dX3_stopped_4 : decode cX3_stopped 4 = .ok (.iconst 0, 1) := by decide +kernel
theorem dX3_stopped_5 : decode cX3_stopped 5 = .ok (.istore 5, 2) := by decide +kernel
theorem dX3_stopped_7 : decode cX3_stopped 7 = .ok (.iload 5, 2) := by decide +kernel
theorem dX3_stopped_9 : decode cX3_stopped 9 = .ok (.aload_n 0, 1) := by decide +kernel
theorem dX3_stopped_10 : decode cX3_stopped 10 = .ok (.getfield 13, 3) := by decide +kernel
theorem dX3_stopped_13 : decode cX3_stopped 13 = .ok (.iload_n 1, 1) := by decide +kernel
theorem dX3_stopped_14 : decode cX3_stopped 14 = .ok (.iaload, 1) := by decide +kernel
theorem dX3_stopped_15 : decode cX3_stopped 15 = .ok (.if_icmp .ge 106, 3) := by decide +kernel
theorem dX3_stopped_18 : decode cX3_stopped 18 = .ok (.aload_n 0, 1) := by decide +kernel
theorem dX3_stopped_19 : decode cX3_stopped 19 = .ok (.getfield 32, 3) := by decide +kernel
theorem dX3_stopped_22 : decode cX3_stopped 22 = .ok (.iconst 0, 1) := by decide +kernel
theorem dX3_stopped_23 : decode cX3_stopped 23 = .ok (.laload, 1) := by decide +kernel
theorem dX3_stopped_24 : decode cX3_stopped 24 = .ok (.iload_n 3, 1) := by decide +kernel
theorem dX3_stopped_25 : decode cX3_stopped 25 = .ok (.i2l, 1) := by decide +kernel
theorem dX3_stopped_26 : decode cX3_stopped 26 = .ok (.lmul, 1) := by decide +kernel
theorem dX3_stopped_27 : decode cX3_stopped 27 = .ok (.aload_n 0, 1) := by decide +kernel
theorem dX3_stopped_28 : decode cX3_stopped 28 = .ok (.getfield 32, 3) := by decide +kernel
theorem dX3_stopped_31 : decode cX3_stopped 31 = .ok (.iconst 1, 1) := by decide +kernel
theorem dX3_stopped_32 : decode cX3_stopped 32 = .ok (.laload, 1) := by decide +kernel
theorem dX3_stopped_33 : decode cX3_stopped 33 = .ok (.iload 4, 2) := by decide +kernel
theorem dX3_stopped_35 : decode cX3_stopped 35 = .ok (.i2l, 1) := by decide +kernel
theorem dX3_stopped_36 : decode cX3_stopped 36 = .ok (.lmul, 1) := by decide +kernel
theorem dX3_stopped_37 : decode cX3_stopped 37 = .ok (.ladd, 1) := by decide +kernel
theorem dX3_stopped_38 : decode cX3_stopped 38 = .ok (.aload_n 0, 1) := by decide +kernel
theorem dX3_stopped_39 : decode cX3_stopped 39 = .ok (.getfield 32, 3) := by decide +kernel
theorem dX3_stopped_42 : decode cX3_stopped 42 = .ok (.iconst 4, 1) := by decide +kernel
theorem dX3_stopped_43 : decode cX3_stopped 43 = .ok (.laload, 1) := by decide +kernel
theorem dX3_stopped_44 : decode cX3_stopped 44 = .ok (.ladd, 1) := by decide +kernel
theorem dX3_stopped_45 : decode cX3_stopped 45 = .ok (.lstore 6, 2) := by decide +kernel
theorem dX3_stopped_47 : decode cX3_stopped 47 = .ok (.aload_n 0, 1) := by decide +kernel
theorem dX3_stopped_48 : decode cX3_stopped 48 = .ok (.getfield 17, 3) := by decide +kernel
theorem dX3_stopped_51 : decode cX3_stopped 51 = .ok (.bipush 8, 2) := by decide +kernel
theorem dX3_stopped_53 : decode cX3_stopped 53 = .ok (.iload_n 1, 1) := by decide +kernel
theorem dX3_stopped_54 : decode cX3_stopped 54 = .ok (.imul, 1) := by decide +kernel
theorem dX3_stopped_55 : decode cX3_stopped 55 = .ok (.iload 5, 2) := by decide +kernel
theorem dX3_stopped_57 : decode cX3_stopped 57 = .ok (.iadd, 1) := by decide +kernel
theorem dX3_stopped_58 : decode cX3_stopped 58 = .ok (.iaload, 1) := by decide +kernel
theorem dX3_stopped_59 : decode cX3_stopped 59 = .ok (.iconst 4, 1) := by decide +kernel
theorem dX3_stopped_60 : decode cX3_stopped 60 = .ok (.if_icmp .ne 43, 3) := by decide +kernel
theorem dX3_stopped_63 : decode cX3_stopped 63 = .ok (.lload 6, 2) := by decide +kernel
theorem dX3_stopped_65 : decode cX3_stopped 65 = .ok (.lconst 0, 1) := by decide +kernel
theorem dX3_stopped_66 : decode cX3_stopped 66 = .ok (.lcmp, 1) := by decide +kernel
theorem dX3_stopped_67 : decode cX3_stopped 67 = .ok (.ifCond .ge 9, 3) := by decide +kernel
theorem dX3_stopped_70 : decode cX3_stopped 70 = .ok (.lload 6, 2) := by decide +kernel
theorem dX3_stopped_72 : decode cX3_stopped 72 = .ok (.lneg, 1) := by decide +kernel
theorem dX3_stopped_73 : decode cX3_stopped 73 = .ok (.goto 5, 3) := by decide +kernel
theorem dX3_stopped_76 : decode cX3_stopped 76 = .ok (.lload 6, 2) := by decide +kernel
theorem dX3_stopped_78 : decode cX3_stopped 78 = .ok (.aload_n 0, 1) := by decide +kernel
theorem dX3_stopped_79 : decode cX3_stopped 79 = .ok (.getfield 20, 3) := by decide +kernel
theorem dX3_stopped_82 : decode cX3_stopped 82 = .ok (.bipush 8, 2) := by decide +kernel
theorem dX3_stopped_84 : decode cX3_stopped 84 = .ok (.iload_n 1, 1) := by decide +kernel
theorem dX3_stopped_85 : decode cX3_stopped 85 = .ok (.imul, 1) := by decide +kernel
theorem dX3_stopped_86 : decode cX3_stopped 86 = .ok (.iload 5, 2) := by decide +kernel
theorem dX3_stopped_88 : decode cX3_stopped 88 = .ok (.iadd, 1) := by decide +kernel
theorem dX3_stopped_89 : decode cX3_stopped 89 = .ok (.iaload, 1) := by decide +kernel
theorem dX3_stopped_90 : decode cX3_stopped 90 = .ok (.i2l, 1) := by decide +kernel
theorem dX3_stopped_91 : decode cX3_stopped 91 = .ok (.aload_n 0, 1) := by decide +kernel
theorem dX3_stopped_92 : decode cX3_stopped 92 = .ok (.getfield 36, 3) := by decide +kernel
theorem dX3_stopped_95 : decode cX3_stopped 95 = .ok (.lmul, 1) := by decide +kernel
theorem dX3_stopped_96 : decode cX3_stopped 96 = .ok (.lcmp, 1) := by decide +kernel
theorem dX3_stopped_97 : decode cX3_stopped 97 = .ok (.ifCond .le 6, 3) := by decide +kernel
theorem dX3_stopped_100 : decode cX3_stopped 100 = .ok (.iload 5, 2) := by decide +kernel
theorem dX3_stopped_102 : decode cX3_stopped 102 = .ok (.ireturn, 1) := by decide +kernel
theorem dX3_stopped_103 : decode cX3_stopped 103 = .ok (.aload_n 0, 1) := by decide +kernel
theorem dX3_stopped_104 : decode cX3_stopped 104 = .ok (.bipush 8, 2) := by decide +kernel
theorem dX3_stopped_106 : decode cX3_stopped 106 = .ok (.iload_n 1, 1) := by decide +kernel
theorem dX3_stopped_107 : decode cX3_stopped 107 = .ok (.imul, 1) := by decide +kernel
theorem dX3_stopped_108 : decode cX3_stopped 108 = .ok (.iload 5, 2) := by decide +kernel
theorem dX3_stopped_110 : decode cX3_stopped 110 = .ok (.iadd, 1) := by decide +kernel
theorem dX3_stopped_111 : decode cX3_stopped 111 = .ok (.iload_n 2, 1) := by decide +kernel
theorem dX3_stopped_112 : decode cX3_stopped 112 = .ok (.invokevirtual 76, 3) := by decide +kernel
theorem dX3_stopped_115 : decode cX3_stopped 115 = .ok (.iinc 5 1, 3) := by decide +kernel
theorem dX3_stopped_118 : decode cX3_stopped 118 = .ok (.goto (-111), 3) := by decide +kernel
theorem dX3_stopped_121 : decode cX3_stopped 121 = .ok (.iconst (-1), 1) := by decide +kernel
theorem dX3_stopped_122 : decode cX3_stopped 122 = .ok (.ireturn, 1) := by decide +kernel
set_option maxRecDepth 20000 in
theorem ggX3_stops_X3_isBench : GoodIn wsX3_stops wsX3_isBench := goodIn_r _ [5, 6, 7, 8, 9, 4, 10, 41, 42, 43, 44, 45, 46, 47, 48, 49] (by decide +kernel) (by decide +kernel)
set_option maxRecDepth 20000 in
theorem gX3_stops_X3_isBench : GoodIn wsX3_stops (wsV RX3 44 RX3 yX3_isBench wsX3_isBench) := goodIn_app (goodIn_of _ (by decide +kernel)) ggX3_stops_X3_isBench
set_option maxRecDepth 20000 in
theorem ggX3_stops_X3_isWay : GoodIn wsX3_stops wsX3_isWay := goodIn_r _ [14] (by decide +kernel) (by decide +kernel)
set_option maxRecDepth 20000 in
theorem gX3_stops_X3_isWay : GoodIn wsX3_stops (wsV RX3 84 RX3 yX3_isWay wsX3_isWay) := goodIn_app (goodIn_of _ (by decide +kernel)) ggX3_stops_X3_isWay
set_option maxRecDepth 20000 in
theorem ggX3_stops_X3_isRay : GoodIn wsX3_stops wsX3_isRay := goodIn_r _ [18, 7, 8, 9, 4, 10] (by decide +kernel) (by decide +kernel)
set_option maxRecDepth 20000 in
theorem gX3_stops_X3_isRay : GoodIn wsX3_stops (wsV RX3 96 RX3 yX3_isRay wsX3_isRay) := goodIn_app (goodIn_of _ (by decide +kernel)) ggX3_stops_X3_isRay
set_option maxRecDepth 20000 in
theorem ggX3_stops_X3_stopped : GoodIn wsX3_stops wsX3_stopped := goodIn_r _ [22, 23, 24, 25, 26, 27, 28, 29, 30, 4, 31, 32, 33, 34, 35, 36, 37, 38, 39, 40, 41, 42, 43, 44, 45, 46, 47, 48, 49] (by decide +kernel) (by decide +kernel)
set_option maxRecDepth 20000 in
theorem gX3_stops_X3_stopped : GoodIn wsX3_stops (wsV RX3 99 RX3 yX3_stopped wsX3_stopped) := goodIn_app (goodIn_of _ (by decide +kernel)) ggX3_stops_X3_stopped
theorem dX3_stops_0 : decode cX3_stops 0 = .ok (.aload_n 0, 1) := by decide +kernel
theorem dX3_stops_1 : decode cX3_stops 1 = .ok (.iload_n 1, 1) := by decide +kernel
theorem dX3_stops_2 : decode cX3_stops 2 = .ok (.invokevirtual 44, 3) := by decide +kernel
theorem dX3_stops_5 : decode cX3_stops 5 = .ok (.ifCond .eq 33, 3) := by decide +kernel
theorem dX3_stops_8 : decode cX3_stops 8 = .ok (.aload_n 0, 1) := by decide +kernel
theorem dX3_stops_9 : decode cX3_stops 9 = .ok (.iload_n 2, 1) := by decide +kernel
theorem dX3_stops_10 : decode cX3_stops 10 = .ok (.invokevirtual 84, 3) := by decide +kernel
theorem dX3_stops_13 : decode cX3_stops 13 = .ok (.ifCond .eq 25, 3) := by decide +kernel
theorem dX3_stops_16 : decode cX3_stops 16 = .ok (.aload_n 0, 1) := by decide +kernel
theorem dX3_stops_17 : decode cX3_stops 17 = .ok (.iload_n 3, 1) := by decide +kernel
theorem dX3_stops_18 : decode cX3_stops 18 = .ok (.iload 4, 2) := by decide +kernel
theorem dX3_stops_20 : decode cX3_stops 20 = .ok (.invokevirtual 96, 3) := by decide +kernel
theorem dX3_stops_23 : decode cX3_stops 23 = .ok (.ifCond .eq 15, 3) := by decide +kernel
theorem dX3_stops_26 : decode cX3_stops 26 = .ok (.aload_n 0, 1) := by decide +kernel
theorem dX3_stops_27 : decode cX3_stops 27 = .ok (.iload_n 1, 1) := by decide +kernel
theorem dX3_stops_28 : decode cX3_stops 28 = .ok (.iload_n 2, 1) := by decide +kernel
theorem dX3_stops_29 : decode cX3_stops 29 = .ok (.iload_n 3, 1) := by decide +kernel
theorem dX3_stops_30 : decode cX3_stops 30 = .ok (.iload 4, 2) := by decide +kernel
theorem dX3_stops_32 : decode cX3_stops 32 = .ok (.invokevirtual 99, 3) := by decide +kernel
theorem dX3_stops_35 : decode cX3_stops 35 = .ok (.goto 4, 3) := by decide +kernel
theorem dX3_stops_38 : decode cX3_stops 38 = .ok (.iconst (-1), 1) := by decide +kernel
theorem dX3_stops_39 : decode cX3_stops 39 = .ok (.ireturn, 1) := by decide +kernel
set_option maxRecDepth 20000 in
theorem ggX3_full_X3_isBench : GoodIn wsX3_full wsX3_isBench := goodIn_r _ [5, 6, 7, 8, 9, 4, 10, 37, 38, 39, 40, 41, 42, 43, 44, 45] (by decide +kernel) (by decide +kernel)
set_option maxRecDepth 20000 in
theorem gX3_full_X3_isBench : GoodIn wsX3_full (wsV RX3 44 RX3 yX3_isBench wsX3_isBench) := goodIn_app (goodIn_of _ (by decide +kernel)) ggX3_full_X3_isBench
set_option maxRecDepth 20000 in
theorem ggX3_full_X3_isWay : GoodIn wsX3_full wsX3_isWay := goodIn_r _ [14] (by decide +kernel) (by decide +kernel)
set_option maxRecDepth 20000 in
theorem gX3_full_X3_isWay : GoodIn wsX3_full (wsV RX3 84 RX3 yX3_isWay wsX3_isWay) := goodIn_app (goodIn_of _ (by decide +kernel)) ggX3_full_X3_isWay
set_option maxRecDepth 20000 in
theorem ggX3_full_X3_stopped : GoodIn wsX3_full wsX3_stopped := goodIn_r _ [18, 19, 20, 21, 22, 23, 24, 25, 26, 4, 27, 28, 29, 30, 31, 32, 33, 34, 35, 36, 37, 38, 39, 40, 41, 42, 43, 44, 45] (by decide +kernel) (by decide +kernel)
set_option maxRecDepth 20000 in
theorem gX3_full_X3_stopped : GoodIn wsX3_full (wsV RX3 99 RX3 yX3_stopped wsX3_stopped) := goodIn_app (goodIn_of _ (by decide +kernel)) ggX3_full_X3_stopped
theorem dX3_full_0 : decode cX3_full 0 = .ok (.aload_n 0, 1) := by decide +kernel
theorem dX3_full_1 : decode cX3_full 1 = .ok (.iload_n 1, 1) := by decide +kernel
theorem dX3_full_2 : decode cX3_full 2 = .ok (.invokevirtual 44, 3) := by decide +kernel
theorem dX3_full_5 : decode cX3_full 5 = .ok (.ifCond .eq 11, 3) := by decide +kernel
theorem dX3_full_8 : decode cX3_full 8 = .ok (.aload_n 0, 1) := by decide +kernel
theorem dX3_full_9 : decode cX3_full 9 = .ok (.iload_n 2, 1) := by decide +kernel
theorem dX3_full_10 : decode cX3_full 10 = .ok (.invokevirtual 84, 3) := by decide +kernel
theorem dX3_full_13 : decode cX3_full 13 = .ok (.ifCond .ne 5, 3) := by decide +kernel
theorem dX3_full_16 : decode cX3_full 16 = .ok (.iconst (-1), 1) := by decide +kernel
theorem dX3_full_17 : decode cX3_full 17 = .ok (.ireturn, 1) := by decide +kernel
theorem dX3_full_18 : decode cX3_full 18 = .ok (.iconst 0, 1) := by decide +kernel
theorem dX3_full_19 : decode cX3_full 19 = .ok (.istore_n 3, 1) := by decide +kernel
theorem dX3_full_20 : decode cX3_full 20 = .ok (.iload_n 3, 1) := by decide +kernel
theorem dX3_full_21 : decode cX3_full 21 = .ok (.sipush 1000, 3) := by decide +kernel
theorem dX3_full_24 : decode cX3_full 24 = .ok (.if_icmp .gt 21, 3) := by decide +kernel
theorem dX3_full_27 : decode cX3_full 27 = .ok (.aload_n 0, 1) := by decide +kernel
theorem dX3_full_28 : decode cX3_full 28 = .ok (.iload_n 1, 1) := by decide +kernel
theorem dX3_full_29 : decode cX3_full 29 = .ok (.iload_n 2, 1) := by decide +kernel
theorem dX3_full_30 : decode cX3_full 30 = .ok (.iconst 0, 1) := by decide +kernel
theorem dX3_full_31 : decode cX3_full 31 = .ok (.iload_n 3, 1) := by decide +kernel
theorem dX3_full_32 : decode cX3_full 32 = .ok (.invokevirtual 99, 3) := by decide +kernel
theorem dX3_full_35 : decode cX3_full 35 = .ok (.iconst (-1), 1) := by decide +kernel
theorem dX3_full_36 : decode cX3_full 36 = .ok (.if_icmp .ne 9, 3) := by decide +kernel
theorem dX3_full_39 : decode cX3_full 39 = .ok (.iinc 3 1, 3) := by decide +kernel
theorem dX3_full_42 : decode cX3_full 42 = .ok (.goto (-22), 3) := by decide +kernel
theorem dX3_full_45 : decode cX3_full 45 = .ok (.iload_n 3, 1) := by decide +kernel
theorem dX3_full_46 : decode cX3_full 46 = .ok (.iconst 1, 1) := by decide +kernel
theorem dX3_full_47 : decode cX3_full 47 = .ok (.isub, 1) := by decide +kernel
theorem dX3_full_48 : decode cX3_full 48 = .ok (.ireturn, 1) := by decide +kernel
set_option maxRecDepth 20000 in
theorem ggX3_image_X3_isBench : GoodIn wsX3_image wsX3_isBench := goodIn_r _ [9, 10, 11, 12, 13, 8, 14, 46, 47, 48, 49, 50, 51, 52, 53, 54] (by decide +kernel) (by decide +kernel)
set_option maxRecDepth 20000 in
theorem gX3_image_X3_isBench : GoodIn wsX3_image (wsV RX3 44 RX3 yX3_isBench wsX3_isBench) := goodIn_app (goodIn_of _ (by decide +kernel)) ggX3_image_X3_isBench
set_option maxRecDepth 20000 in
theorem ggX3_image_X3_isWay : GoodIn wsX3_image wsX3_isWay := goodIn_r _ [18] (by decide +kernel) (by decide +kernel)
set_option maxRecDepth 20000 in
theorem gX3_image_X3_isWay : GoodIn wsX3_image (wsV RX3 84 RX3 yX3_isWay wsX3_isWay) := goodIn_app (goodIn_of _ (by decide +kernel)) ggX3_image_X3_isWay
set_option maxRecDepth 20000 in
theorem ggX3_image_X3_in : GoodIn wsX3_image wsX3_in := goodIn_r _ [14] (by decide +kernel) (by decide +kernel)
set_option maxRecDepth 20000 in
theorem gX3_image_X3_in : GoodIn wsX3_image (wsV RX3 40 RX3 yX3_in wsX3_in) := goodIn_app (goodIn_of _ (by decide +kernel)) ggX3_image_X3_in
set_option maxRecDepth 20000 in
theorem ggX3_image_X3_work : GoodIn wsX3_image wsX3_work := goodIn_r _ [22, 2, 23, 24, 25, 8, 26, 3, 4, 27, 28, 29, 30, 31, 32, 33, 34, 35, 36, 37, 46, 47, 48, 49, 50, 51, 52, 53, 54] (by decide +kernel) (by decide +kernel)
set_option maxRecDepth 20000 in
theorem gX3_image_X3_work : GoodIn wsX3_image (wsV RX3 89 RX3 yX3_work wsX3_work) := goodIn_app (goodIn_of _ (by decide +kernel)) ggX3_image_X3_work
set_option maxRecDepth 20000 in
theorem ggX3_image_X3_lowest : GoodIn wsX3_image wsX3_lowest := goodIn_r _ [41, 42, 43, 44, 8, 45] (by decide +kernel) (by decide +kernel)
set_option maxRecDepth 20000 in
theorem gX3_image_X3_lowest : GoodIn wsX3_image (wsV RX3 92 RX3 yX3_lowest wsX3_lowest) := goodIn_app (goodIn_of _ (by decide +kernel)) ggX3_image_X3_lowest
theorem dX3_image_0 : decode cX3_image 0 = .ok (.aload_n 0, 1) := by decide +kernel
theorem dX3_image_1 : decode cX3_image 1 = .ok (.iload_n 1, 1) := by decide +kernel
theorem dX3_image_2 : decode cX3_image 2 = .ok (.invokevirtual 44, 3) := by decide +kernel
theorem dX3_image_5 : decode cX3_image 5 = .ok (.ifCond .eq 32, 3) := by decide +kernel
theorem dX3_image_8 : decode cX3_image 8 = .ok (.aload_n 0, 1) := by decide +kernel
theorem dX3_image_9 : decode cX3_image 9 = .ok (.iload_n 2, 1) := by decide +kernel
theorem dX3_image_10 : decode cX3_image 10 = .ok (.invokevirtual 84, 3) := by decide +kernel
theorem dX3_image_13 : decode cX3_image 13 = .ok (.ifCond .eq 24, 3) := by decide +kernel
theorem dX3_image_16 : decode cX3_image 16 = .ok (.aload_n 0, 1) := by decide +kernel
theorem dX3_image_17 : decode cX3_image 17 = .ok (.iload_n 3, 1) := by decide +kernel
theorem dX3_image_18 : decode cX3_image 18 = .ok (.iconst 0, 1) := by decide +kernel
theorem dX3_image_19 : decode cX3_image 19 = .ok (.iconst 1, 1) := by decide +kernel
theorem dX3_image_20 : decode cX3_image 20 = .ok (.invokevirtual 40, 3) := by decide +kernel
theorem dX3_image_23 : decode cX3_image 23 = .ok (.ifCond .eq 14, 3) := by decide +kernel
theorem dX3_image_26 : decode cX3_image 26 = .ok (.aload_n 0, 1) := by decide +kernel
theorem dX3_image_27 : decode cX3_image 27 = .ok (.iload 4, 2) := by decide +kernel
theorem dX3_image_29 : decode cX3_image 29 = .ok (.iconst 0, 1) := by decide +kernel
theorem dX3_image_30 : decode cX3_image 30 = .ok (.iconst 1, 1) := by decide +kernel
theorem dX3_image_31 : decode cX3_image 31 = .ok (.invokevirtual 40, 3) := by decide +kernel
theorem dX3_image_34 : decode cX3_image 34 = .ok (.ifCond .ne 7, 3) := by decide +kernel
theorem dX3_image_37 : decode cX3_image 37 = .ok (.ldc2_w 87, 3) := by decide +kernel
theorem dX3_image_40 : decode cX3_image 40 = .ok (.lreturn, 1) := by decide +kernel
theorem dX3_image_41 : decode cX3_image 41 = .ok (.aload_n 0, 1) := by decide +kernel
theorem dX3_image_42 : decode cX3_image 42 = .ok (.iload_n 1, 1) := by decide +kernel
theorem dX3_image_43 : decode cX3_image 43 = .ok (.iload_n 2, 1) := by decide +kernel
theorem dX3_image_44 : decode cX3_image 44 = .ok (.iconst 0, 1) := by decide +kernel
theorem dX3_image_45 : decode cX3_image 45 = .ok (.aload_n 0, 1) := by decide +kernel
theorem dX3_image_46 : decode cX3_image 46 = .ok (.getfield 13, 3) := by decide +kernel
theorem dX3_image_49 : decode cX3_image 49 = .ok (.iload_n 1, 1) := by decide +kernel
theorem dX3_image_50 : decode cX3_image 50 = .ok (.iaload, 1) := by decide +kernel
theorem dX3_image_51 : decode cX3_image 51 = .ok (.invokevirtual 89, 3) := by decide +kernel
theorem dX3_image_54 : decode cX3_image 54 = .ok (.aload_n 0, 1) := by decide +kernel
theorem dX3_image_55 : decode cX3_image 55 = .ok (.getfield 32, 3) := by decide +kernel
theorem dX3_image_58 : decode cX3_image 58 = .ok (.iconst 3, 1) := by decide +kernel
theorem dX3_image_59 : decode cX3_image 59 = .ok (.laload, 1) := by decide +kernel
theorem dX3_image_60 : decode cX3_image 60 = .ok (.lconst 0, 1) := by decide +kernel
theorem dX3_image_61 : decode cX3_image 61 = .ok (.lcmp, 1) := by decide +kernel
theorem dX3_image_62 : decode cX3_image 62 = .ok (.ifCond .ne 7, 3) := by decide +kernel
theorem dX3_image_65 : decode cX3_image 65 = .ok (.ldc2_w 87, 3) := by decide +kernel
theorem dX3_image_68 : decode cX3_image 68 = .ok (.lreturn, 1) := by decide +kernel
theorem dX3_image_69 : decode cX3_image 69 = .ok (.iload_n 3, 1) := by decide +kernel
theorem dX3_image_70 : decode cX3_image 70 = .ok (.ifCond .ne 25, 3) := by decide +kernel
theorem dX3_image_73 : decode cX3_image 73 = .ok (.aload_n 0, 1) := by decide +kernel
theorem dX3_image_74 : decode cX3_image 74 = .ok (.aload_n 0, 1) := by decide +kernel
theorem dX3_image_75 : decode cX3_image 75 = .ok (.getfield 32, 3) := by decide +kernel
theorem dX3_image_78 : decode cX3_image 78 = .ok (.iconst 1, 1) := by decide +kernel
theorem dX3_image_79 : decode cX3_image 79 = .ok (.laload, 1) := by decide +kernel
theorem dX3_image_80 : decode cX3_image 80 = .ok (.lneg, 1) := by decide +kernel
theorem dX3_image_81 : decode cX3_image 81 = .ok (.aload_n 0, 1) := by decide +kernel
theorem dX3_image_82 : decode cX3_image 82 = .ok (.getfield 32, 3) := by decide +kernel
theorem dX3_image_85 : decode cX3_image 85 = .ok (.iconst 3, 1) := by decide +kernel
theorem dX3_image_86 : decode cX3_image 86 = .ok (.laload, 1) := by decide +kernel
theorem dX3_image_87 : decode cX3_image 87 = .ok (.iload 4, 2) := by decide +kernel
theorem dX3_image_89 : decode cX3_image 89 = .ok (.invokevirtual 92, 3) := by decide +kernel
theorem dX3_image_92 : decode cX3_image 92 = .ok (.goto 47, 3) := by decide +kernel
theorem dX3_image_95 : decode cX3_image 95 = .ok (.aload_n 0, 1) := by decide +kernel
theorem dX3_image_96 : decode cX3_image 96 = .ok (.aload_n 0, 1) := by decide +kernel
theorem dX3_image_97 : decode cX3_image 97 = .ok (.getfield 32, 3) := by decide +kernel
theorem dX3_image_100 : decode cX3_image 100 = .ok (.iconst 0, 1) := by decide +kernel
theorem dX3_image_101 : decode cX3_image 101 = .ok (.laload, 1) := by decide +kernel
theorem dX3_image_102 : decode cX3_image 102 = .ok (.aload_n 0, 1) := by decide +kernel
theorem dX3_image_103 : decode cX3_image 103 = .ok (.getfield 32, 3) := by decide +kernel
theorem dX3_image_106 : decode cX3_image 106 = .ok (.iconst 3, 1) := by decide +kernel
theorem dX3_image_107 : decode cX3_image 107 = .ok (.laload, 1) := by decide +kernel
theorem dX3_image_108 : decode cX3_image 108 = .ok (.lmul, 1) := by decide +kernel
theorem dX3_image_109 : decode cX3_image 109 = .ok (.aload_n 0, 1) := by decide +kernel
theorem dX3_image_110 : decode cX3_image 110 = .ok (.getfield 32, 3) := by decide +kernel
theorem dX3_image_113 : decode cX3_image 113 = .ok (.iconst 1, 1) := by decide +kernel
theorem dX3_image_114 : decode cX3_image 114 = .ok (.laload, 1) := by decide +kernel
theorem dX3_image_115 : decode cX3_image 115 = .ok (.aload_n 0, 1) := by decide +kernel
theorem dX3_image_116 : decode cX3_image 116 = .ok (.getfield 32, 3) := by decide +kernel
theorem dX3_image_119 : decode cX3_image 119 = .ok (.iconst 2, 1) := by decide +kernel
theorem dX3_image_120 : decode cX3_image 120 = .ok (.laload, 1) := by decide +kernel
theorem dX3_image_121 : decode cX3_image 121 = .ok (.lmul, 1) := by decide +kernel
theorem dX3_image_122 : decode cX3_image 122 = .ok (.lsub, 1) := by decide +kernel
theorem dX3_image_123 : decode cX3_image 123 = .ok (.aload_n 0, 1) := by decide +kernel
theorem dX3_image_124 : decode cX3_image 124 = .ok (.getfield 36, 3) := by decide +kernel
theorem dX3_image_127 : decode cX3_image 127 = .ok (.aload_n 0, 1) := by decide +kernel
theorem dX3_image_128 : decode cX3_image 128 = .ok (.getfield 32, 3) := by decide +kernel
theorem dX3_image_131 : decode cX3_image 131 = .ok (.iconst 3, 1) := by decide +kernel
theorem dX3_image_132 : decode cX3_image 132 = .ok (.laload, 1) := by decide +kernel
theorem dX3_image_133 : decode cX3_image 133 = .ok (.lmul, 1) := by decide +kernel
theorem dX3_image_134 : decode cX3_image 134 = .ok (.iload 4, 2) := by decide +kernel
theorem dX3_image_136 : decode cX3_image 136 = .ok (.invokevirtual 92, 3) := by decide +kernel
theorem dX3_image_139 : decode cX3_image 139 = .ok (.lreturn, 1) := by decide +kernel
set_option maxRecDepth 20000 in
theorem ggX3_same_X3_isBench : GoodIn wsX3_same wsX3_isBench := goodIn_r _ [8, 9, 10, 11, 12, 7, 13, 37, 38, 39, 40, 41, 42, 43, 44, 45] (by decide +kernel) (by decide +kernel)
set_option maxRecDepth 20000 in
theorem gX3_same_X3_isBench : GoodIn wsX3_same (wsV RX3 44 RX3 yX3_isBench wsX3_isBench) := goodIn_app (goodIn_of _ (by decide +kernel)) ggX3_same_X3_isBench
set_option maxRecDepth 20000 in
theorem ggX3_same_X3_isWay : GoodIn wsX3_same wsX3_isWay := goodIn_r _ [17] (by decide +kernel) (by decide +kernel)
set_option maxRecDepth 20000 in
theorem gX3_same_X3_isWay : GoodIn wsX3_same (wsV RX3 84 RX3 yX3_isWay wsX3_isWay) := goodIn_app (goodIn_of _ (by decide +kernel)) ggX3_same_X3_isWay
set_option maxRecDepth 20000 in
theorem ggX3_same_X3_work : GoodIn wsX3_same wsX3_work := goodIn_r _ [21, 1, 22, 23, 24, 7, 25, 2, 3, 26, 27, 28, 29, 30, 31, 32, 33, 34, 35, 36, 37, 38, 39, 40, 41, 42, 43, 44, 45] (by decide +kernel) (by decide +kernel)
set_option maxRecDepth 20000 in
theorem gX3_same_X3_work : GoodIn wsX3_same (wsV RX3 89 RX3 yX3_work wsX3_work) := goodIn_app (goodIn_of _ (by decide +kernel)) ggX3_same_X3_work
theorem dX3_same_0 : decode cX3_same 0 = .ok (.aload_n 0, 1) := by decide +kernel
theorem dX3_same_1 : decode cX3_same 1 = .ok (.iload_n 1, 1) := by decide +kernel
theorem dX3_same_2 : decode cX3_same 2 = .ok (.invokevirtual 44, 3) := by decide +kernel
theorem dX3_same_5 : decode cX3_same 5 = .ok (.ifCond .eq 19, 3) := by decide +kernel
theorem dX3_same_8 : decode cX3_same 8 = .ok (.aload_n 0, 1) := by decide +kernel
theorem dX3_same_9 : decode cX3_same 9 = .ok (.iload_n 2, 1) := by decide +kernel
theorem dX3_same_10 : decode cX3_same 10 = .ok (.invokevirtual 44, 3) := by decide +kernel
theorem dX3_same_13 : decode cX3_same 13 = .ok (.ifCond .eq 11, 3) := by decide +kernel
theorem dX3_same_16 : decode cX3_same 16 = .ok (.aload_n 0, 1) := by decide +kernel
theorem dX3_same_17 : decode cX3_same 17 = .ok (.iload_n 3, 1) := by decide +kernel
theorem dX3_same_18 : decode cX3_same 18 = .ok (.invokevirtual 84, 3) := by decide +kernel
theorem dX3_same_21 : decode cX3_same 21 = .ok (.ifCond .ne 5, 3) := by decide +kernel
theorem dX3_same_24 : decode cX3_same 24 = .ok (.iconst (-1), 1) := by decide +kernel
theorem dX3_same_25 : decode cX3_same 25 = .ok (.ireturn, 1) := by decide +kernel
theorem dX3_same_26 : decode cX3_same 26 = .ok (.iconst 0, 1) := by decide +kernel
theorem dX3_same_27 : decode cX3_same 27 = .ok (.istore 4, 2) := by decide +kernel
theorem dX3_same_29 : decode cX3_same 29 = .ok (.iload 4, 2) := by decide +kernel
theorem dX3_same_31 : decode cX3_same 31 = .ok (.bipush 6, 2) := by decide +kernel
theorem dX3_same_33 : decode cX3_same 33 = .ok (.if_icmp .ge 73, 3) := by decide +kernel
theorem dX3_same_36 : decode cX3_same 36 = .ok (.aload_n 0, 1) := by decide +kernel
theorem dX3_same_37 : decode cX3_same 37 = .ok (.iload_n 1, 1) := by decide +kernel
theorem dX3_same_38 : decode cX3_same 38 = .ok (.iload_n 3, 1) := by decide +kernel
theorem dX3_same_39 : decode cX3_same 39 = .ok (.iconst 0, 1) := by decide +kernel
theorem dX3_same_40 : decode cX3_same 40 = .ok (.aload_n 0, 1) := by decide +kernel
theorem dX3_same_41 : decode cX3_same 41 = .ok (.getfield 13, 3) := by decide +kernel
theorem dX3_same_44 : decode cX3_same 44 = .ok (.iload_n 1, 1) := by decide +kernel
theorem dX3_same_45 : decode cX3_same 45 = .ok (.iaload, 1) := by decide +kernel
theorem dX3_same_46 : decode cX3_same 46 = .ok (.invokevirtual 89, 3) := by decide +kernel
theorem dX3_same_49 : decode cX3_same 49 = .ok (.aload_n 0, 1) := by decide +kernel
theorem dX3_same_50 : decode cX3_same 50 = .ok (.getfield 32, 3) := by decide +kernel
theorem dX3_same_53 : decode cX3_same 53 = .ok (.iload 4, 2) := by decide +kernel
theorem dX3_same_55 : decode cX3_same 55 = .ok (.laload, 1) := by decide +kernel
theorem dX3_same_56 : decode cX3_same 56 = .ok (.lstore 5, 2) := by decide +kernel
theorem dX3_same_58 : decode cX3_same 58 = .ok (.aload_n 0, 1) := by decide +kernel
theorem dX3_same_59 : decode cX3_same 59 = .ok (.getfield 36, 3) := by decide +kernel
theorem dX3_same_62 : decode cX3_same 62 = .ok (.lstore 7, 2) := by decide +kernel
theorem dX3_same_64 : decode cX3_same 64 = .ok (.aload_n 0, 1) := by decide +kernel
theorem dX3_same_65 : decode cX3_same 65 = .ok (.iload_n 2, 1) := by decide +kernel
theorem dX3_same_66 : decode cX3_same 66 = .ok (.iload_n 3, 1) := by decide +kernel
theorem dX3_same_67 : decode cX3_same 67 = .ok (.iconst 0, 1) := by decide +kernel
theorem dX3_same_68 : decode cX3_same 68 = .ok (.aload_n 0, 1) := by decide +kernel
theorem dX3_same_69 : decode cX3_same 69 = .ok (.getfield 13, 3) := by decide +kernel
theorem dX3_same_72 : decode cX3_same 72 = .ok (.iload_n 2, 1) := by decide +kernel
theorem dX3_same_73 : decode cX3_same 73 = .ok (.iaload, 1) := by decide +kernel
theorem dX3_same_74 : decode cX3_same 74 = .ok (.invokevirtual 89, 3) := by decide +kernel
theorem dX3_same_77 : decode cX3_same 77 = .ok (.lload 5, 2) := by decide +kernel
theorem dX3_same_79 : decode cX3_same 79 = .ok (.aload_n 0, 1) := by decide +kernel
theorem dX3_same_80 : decode cX3_same 80 = .ok (.getfield 36, 3) := by decide +kernel
theorem dX3_same_83 : decode cX3_same 83 = .ok (.lmul, 1) := by decide +kernel
theorem dX3_same_84 : decode cX3_same 84 = .ok (.aload_n 0, 1) := by decide +kernel
theorem dX3_same_85 : decode cX3_same 85 = .ok (.getfield 32, 3) := by decide +kernel
theorem dX3_same_88 : decode cX3_same 88 = .ok (.iload 4, 2) := by decide +kernel
theorem dX3_same_90 : decode cX3_same 90 = .ok (.laload, 1) := by decide +kernel
theorem dX3_same_91 : decode cX3_same 91 = .ok (.lload 7, 2) := by decide +kernel
theorem dX3_same_93 : decode cX3_same 93 = .ok (.lmul, 1) := by decide +kernel
theorem dX3_same_94 : decode cX3_same 94 = .ok (.lcmp, 1) := by decide +kernel
theorem dX3_same_95 : decode cX3_same 95 = .ok (.ifCond .eq 5, 3) := by decide +kernel
theorem dX3_same_98 : decode cX3_same 98 = .ok (.iconst 0, 1) := by decide +kernel
theorem dX3_same_99 : decode cX3_same 99 = .ok (.ireturn, 1) := by decide +kernel
theorem dX3_same_100 : decode cX3_same 100 = .ok (.iinc 4 1, 3) := by decide +kernel
theorem dX3_same_103 : decode cX3_same 103 = .ok (.goto (-74), 3) := by decide +kernel
theorem dX3_same_106 : decode cX3_same 106 = .ok (.iconst 1, 1) := by decide +kernel
theorem dX3_same_107 : decode cX3_same 107 = .ok (.ireturn, 1) := by decide +kernel
theorem dX3_traceOf_0 : decode cX3_traceOf 0 = .ok (.aload_n 0, 1) := by decide +kernel
theorem dX3_traceOf_1 : decode cX3_traceOf 1 = .ok (.getfield 32, 3) := by decide +kernel
theorem dX3_traceOf_4 : decode cX3_traceOf 4 = .ok (.iconst 0, 1) := by decide +kernel
theorem dX3_traceOf_5 : decode cX3_traceOf 5 = .ok (.laload, 1) := by decide +kernel
theorem dX3_traceOf_6 : decode cX3_traceOf 6 = .ok (.aload_n 0, 1) := by decide +kernel
theorem dX3_traceOf_7 : decode cX3_traceOf 7 = .ok (.getfield 32, 3) := by decide +kernel
theorem dX3_traceOf_10 : decode cX3_traceOf 10 = .ok (.iconst 3, 1) := by decide +kernel
theorem dX3_traceOf_11 : decode cX3_traceOf 11 = .ok (.laload, 1) := by decide +kernel
theorem dX3_traceOf_12 : decode cX3_traceOf 12 = .ok (.ladd, 1) := by decide +kernel
theorem dX3_traceOf_13 : decode cX3_traceOf 13 = .ok (.lreturn, 1) := by decide +kernel
theorem dX3_isPlain_0 : decode cX3_isPlain 0 = .ok (.aload_n 0, 1) := by decide +kernel
theorem dX3_isPlain_1 : decode cX3_isPlain 1 = .ok (.getfield 32, 3) := by decide +kernel
theorem dX3_isPlain_4 : decode cX3_isPlain 4 = .ok (.iconst 0, 1) := by decide +kernel
theorem dX3_isPlain_5 : decode cX3_isPlain 5 = .ok (.laload, 1) := by decide +kernel
theorem dX3_isPlain_6 : decode cX3_isPlain 6 = .ok (.lload_n 1, 1) := by decide +kernel
theorem dX3_isPlain_7 : decode cX3_isPlain 7 = .ok (.aload_n 0, 1) := by decide +kernel
theorem dX3_isPlain_8 : decode cX3_isPlain 8 = .ok (.getfield 36, 3) := by decide +kernel
theorem dX3_isPlain_11 : decode cX3_isPlain 11 = .ok (.lmul, 1) := by decide +kernel
theorem dX3_isPlain_12 : decode cX3_isPlain 12 = .ok (.lcmp, 1) := by decide +kernel
theorem dX3_isPlain_13 : decode cX3_isPlain 13 = .ok (.ifCond .ne 45, 3) := by decide +kernel
theorem dX3_isPlain_16 : decode cX3_isPlain 16 = .ok (.aload_n 0, 1) := by decide +kernel
theorem dX3_isPlain_17 : decode cX3_isPlain 17 = .ok (.getfield 32, 3) := by decide +kernel
theorem dX3_isPlain_20 : decode cX3_isPlain 20 = .ok (.iconst 3, 1) := by decide +kernel
theorem dX3_isPlain_21 : decode cX3_isPlain 21 = .ok (.laload, 1) := by decide +kernel
theorem dX3_isPlain_22 : decode cX3_isPlain 22 = .ok (.lload_n 1, 1) := by decide +kernel
theorem dX3_isPlain_23 : decode cX3_isPlain 23 = .ok (.aload_n 0, 1) := by decide +kernel
theorem dX3_isPlain_24 : decode cX3_isPlain 24 = .ok (.getfield 36, 3) := by decide +kernel
theorem dX3_isPlain_27 : decode cX3_isPlain 27 = .ok (.lmul, 1) := by decide +kernel
theorem dX3_isPlain_28 : decode cX3_isPlain 28 = .ok (.lcmp, 1) := by decide +kernel
theorem dX3_isPlain_29 : decode cX3_isPlain 29 = .ok (.ifCond .ne 29, 3) := by decide +kernel
theorem dX3_isPlain_32 : decode cX3_isPlain 32 = .ok (.aload_n 0, 1) := by decide +kernel
theorem dX3_isPlain_33 : decode cX3_isPlain 33 = .ok (.getfield 32, 3) := by decide +kernel
theorem dX3_isPlain_36 : decode cX3_isPlain 36 = .ok (.iconst 1, 1) := by decide +kernel
theorem dX3_isPlain_37 : decode cX3_isPlain 37 = .ok (.laload, 1) := by decide +kernel
theorem dX3_isPlain_38 : decode cX3_isPlain 38 = .ok (.lconst 0, 1) := by decide +kernel
theorem dX3_isPlain_39 : decode cX3_isPlain 39 = .ok (.lcmp, 1) := by decide +kernel
theorem dX3_isPlain_40 : decode cX3_isPlain 40 = .ok (.ifCond .ne 18, 3) := by decide +kernel
theorem dX3_isPlain_43 : decode cX3_isPlain 43 = .ok (.aload_n 0, 1) := by decide +kernel
theorem dX3_isPlain_44 : decode cX3_isPlain 44 = .ok (.getfield 32, 3) := by decide +kernel
theorem dX3_isPlain_47 : decode cX3_isPlain 47 = .ok (.iconst 2, 1) := by decide +kernel
theorem dX3_isPlain_48 : decode cX3_isPlain 48 = .ok (.laload, 1) := by decide +kernel
theorem dX3_isPlain_49 : decode cX3_isPlain 49 = .ok (.lconst 0, 1) := by decide +kernel
theorem dX3_isPlain_50 : decode cX3_isPlain 50 = .ok (.lcmp, 1) := by decide +kernel
theorem dX3_isPlain_51 : decode cX3_isPlain 51 = .ok (.ifCond .ne 7, 3) := by decide +kernel
theorem dX3_isPlain_54 : decode cX3_isPlain 54 = .ok (.iconst 1, 1) := by decide +kernel
theorem dX3_isPlain_55 : decode cX3_isPlain 55 = .ok (.goto 4, 3) := by decide +kernel
theorem dX3_isPlain_58 : decode cX3_isPlain 58 = .ok (.iconst 0, 1) := by decide +kernel
theorem dX3_isPlain_59 : decode cX3_isPlain 59 = .ok (.ireturn, 1) := by decide +kernel
set_option maxRecDepth 20000 in
theorem ggX3_isBetween_X3_traceOf : GoodIn wsX3_isBetween wsX3_traceOf := goodIn_r _ [8, 9, 10, 11, 12, 13, 14, 15, 16, 17, 18] (by decide +kernel) (by decide +kernel)
set_option maxRecDepth 20000 in
theorem gX3_isBetween_X3_traceOf : GoodIn wsX3_isBetween (wsV RX3 103 RX3 yX3_traceOf wsX3_traceOf) := goodIn_app (goodIn_of _ (by decide +kernel)) ggX3_isBetween_X3_traceOf
theorem dX3_isBetween_0 : decode cX3_isBetween 0 = .ok (.aload_n 0, 1) := by decide +kernel
theorem dX3_isBetween_1 : decode cX3_isBetween 1 = .ok (.invokevirtual 103, 3) := by decide +kernel
theorem dX3_isBetween_4 : decode cX3_isBetween 4 = .ok (.ldc2_w 107, 3) := by decide +kernel
theorem dX3_isBetween_7 : decode cX3_isBetween 7 = .ok (.aload_n 0, 1) := by decide +kernel
theorem dX3_isBetween_8 : decode cX3_isBetween 8 = .ok (.getfield 36, 3) := by decide +kernel
theorem dX3_isBetween_11 : decode cX3_isBetween 11 = .ok (.lmul, 1) := by decide +kernel
theorem dX3_isBetween_12 : decode cX3_isBetween 12 = .ok (.lcmp, 1) := by decide +kernel
theorem dX3_isBetween_13 : decode cX3_isBetween 13 = .ok (.ifCond .ge 23, 3) := by decide +kernel
theorem dX3_isBetween_16 : decode cX3_isBetween 16 = .ok (.aload_n 0, 1) := by decide +kernel
theorem dX3_isBetween_17 : decode cX3_isBetween 17 = .ok (.invokevirtual 103, 3) := by decide +kernel
theorem dX3_isBetween_20 : decode cX3_isBetween 20 = .ok (.ldc2_w 109, 3) := by decide +kernel
theorem dX3_isBetween_23 : decode cX3_isBetween 23 = .ok (.aload_n 0, 1) := by decide +kernel
theorem dX3_isBetween_24 : decode cX3_isBetween 24 = .ok (.getfield 36, 3) := by decide +kernel
theorem dX3_isBetween_27 : decode cX3_isBetween 27 = .ok (.lmul, 1) := by decide +kernel
theorem dX3_isBetween_28 : decode cX3_isBetween 28 = .ok (.lcmp, 1) := by decide +kernel
theorem dX3_isBetween_29 : decode cX3_isBetween 29 = .ok (.ifCond .le 7, 3) := by decide +kernel
theorem dX3_isBetween_32 : decode cX3_isBetween 32 = .ok (.iconst 1, 1) := by decide +kernel
theorem dX3_isBetween_33 : decode cX3_isBetween 33 = .ok (.goto 4, 3) := by decide +kernel
theorem dX3_isBetween_36 : decode cX3_isBetween 36 = .ok (.iconst 0, 1) := by decide +kernel
theorem dX3_isBetween_37 : decode cX3_isBetween 37 = .ok (.ireturn, 1) := by decide +kernel
set_option maxRecDepth 20000 in
theorem ggX3_roundOf_X3_work : GoodIn wsX3_roundOf wsX3_work := goodIn_r _ [10, 1, 11, 12, 13, 9, 14, 15, 4, 16, 17, 18, 19, 20, 21, 22, 23, 24, 25, 26, 39, 40, 41, 42, 43, 44, 45, 46, 47] (by decide +kernel) (by decide +kernel)
set_option maxRecDepth 20000 in
theorem gX3_roundOf_X3_work : GoodIn wsX3_roundOf (wsV RX3 89 RX3 yX3_work wsX3_work) := goodIn_app (goodIn_of _ (by decide +kernel)) ggX3_roundOf_X3_work
set_option maxRecDepth 20000 in
theorem ggX3_roundOf_X3_isBetween : GoodIn wsX3_roundOf wsX3_isBetween := goodIn_r _ [30, 3, 4, 5, 31, 32, 33, 9, 34, 15, 39, 40, 41, 42, 43, 44, 45, 46, 47] (by decide +kernel) (by decide +kernel)
set_option maxRecDepth 20000 in
theorem gX3_roundOf_X3_isBetween : GoodIn wsX3_roundOf (wsV RX3 111 RX3 yX3_isBetween wsX3_isBetween) := goodIn_app (goodIn_of _ (by decide +kernel)) ggX3_roundOf_X3_isBetween
set_option maxRecDepth 20000 in
theorem ggX3_roundOf_X3_isPlain : GoodIn wsX3_roundOf wsX3_isPlain := goodIn_r _ [38, 15, 4, 39, 40, 41, 42, 43, 44, 45, 46, 47] (by decide +kernel) (by decide +kernel)
set_option maxRecDepth 20000 in
theorem gX3_roundOf_X3_isPlain : GoodIn wsX3_roundOf (wsV RX3 115 RX3 yX3_isPlain wsX3_isPlain) := goodIn_app (goodIn_of _ (by decide +kernel)) ggX3_roundOf_X3_isPlain
set_option maxRecDepth 20000 in
theorem ggX3_roundOf_X3_traceOf : GoodIn wsX3_roundOf wsX3_traceOf := goodIn_r _ [34, 15, 39, 40, 41, 42, 43, 44, 45, 46, 47] (by decide +kernel) (by decide +kernel)
set_option maxRecDepth 20000 in
theorem gX3_roundOf_X3_traceOf : GoodIn wsX3_roundOf (wsV RX3 103 RX3 yX3_traceOf wsX3_traceOf) := goodIn_app (goodIn_of _ (by decide +kernel)) ggX3_roundOf_X3_traceOf
theorem dX3_roundOf_0 : decode cX3_roundOf 0 = .ok (.aload_n 0, 1) := by decide +kernel
theorem dX3_roundOf_1 : decode cX3_roundOf 1 = .ok (.iload_n 1, 1) := by decide +kernel
theorem dX3_roundOf_2 : decode cX3_roundOf 2 = .ok (.iload_n 2, 1) := by decide +kernel
theorem dX3_roundOf_3 : decode cX3_roundOf 3 = .ok (.iconst 0, 1) := by decide +kernel
theorem dX3_roundOf_4 : decode cX3_roundOf 4 = .ok (.aload_n 0, 1) := by decide +kernel
theorem dX3_roundOf_5 : decode cX3_roundOf 5 = .ok (.getfield 13, 3) := by decide +kernel
theorem dX3_roundOf_8 : decode cX3_roundOf 8 = .ok (.iload_n 1, 1) := by decide +kernel
theorem dX3_roundOf_9 : decode cX3_roundOf 9 = .ok (.iaload, 1) := by decide +kernel
theorem dX3_roundOf_10 : decode cX3_roundOf 10 = .ok (.invokevirtual 89, 3) := by decide +kernel
theorem dX3_roundOf_13 : decode cX3_roundOf 13 = .ok (.aload_n 0, 1) := by decide +kernel
theorem dX3_roundOf_14 : decode cX3_roundOf 14 = .ok (.invokevirtual 111, 3) := by decide +kernel
theorem dX3_roundOf_17 : decode cX3_roundOf 17 = .ok (.ifCond .ne 21, 3) := by decide +kernel
theorem dX3_roundOf_20 : decode cX3_roundOf 20 = .ok (.aload_n 0, 1) := by decide +kernel
theorem dX3_roundOf_21 : decode cX3_roundOf 21 = .ok (.lconst 1, 1) := by decide +kernel
theorem dX3_roundOf_22 : decode cX3_roundOf 22 = .ok (.invokevirtual 115, 3) := by decide +kernel
theorem dX3_roundOf_25 : decode cX3_roundOf 25 = .ok (.ifCond .ne 13, 3) := by decide +kernel
theorem dX3_roundOf_28 : decode cX3_roundOf 28 = .ok (.aload_n 0, 1) := by decide +kernel
theorem dX3_roundOf_29 : decode cX3_roundOf 29 = .ok (.ldc2_w 119, 3) := by decide +kernel
theorem dX3_roundOf_32 : decode cX3_roundOf 32 = .ok (.invokevirtual 115, 3) := by decide +kernel
theorem dX3_roundOf_35 : decode cX3_roundOf 35 = .ok (.ifCond .eq 5, 3) := by decide +kernel
theorem dX3_roundOf_38 : decode cX3_roundOf 38 = .ok (.iconst 0, 1) := by decide +kernel
theorem dX3_roundOf_39 : decode cX3_roundOf 39 = .ok (.ireturn, 1) := by decide +kernel
theorem dX3_roundOf_40 : decode cX3_roundOf 40 = .ok (.aload_n 0, 1) := by decide +kernel
theorem dX3_roundOf_41 : decode cX3_roundOf 41 = .ok (.invokevirtual 103, 3) := by decide +kernel
theorem dX3_roundOf_44 : decode cX3_roundOf 44 = .ok (.ldc2_w 107, 3) := by decide +kernel
theorem dX3_roundOf_47 : decode cX3_roundOf 47 = .ok (.aload_n 0, 1) := by decide +kernel
theorem dX3_roundOf_48 : decode cX3_roundOf 48 = .ok (.getfield 36, 3) := by decide +kernel
theorem dX3_roundOf_51 : decode cX3_roundOf 51 = .ok (.lmul, 1) := by decide +kernel
theorem dX3_roundOf_52 : decode cX3_roundOf 52 = .ok (.lcmp, 1) := by decide +kernel
theorem dX3_roundOf_53 : decode cX3_roundOf 53 = .ok (.ifCond .eq 19, 3) := by decide +kernel
theorem dX3_roundOf_56 : decode cX3_roundOf 56 = .ok (.aload_n 0, 1) := by decide +kernel
theorem dX3_roundOf_57 : decode cX3_roundOf 57 = .ok (.invokevirtual 103, 3) := by decide +kernel
theorem dX3_roundOf_60 : decode cX3_roundOf 60 = .ok (.ldc2_w 109, 3) := by decide +kernel
theorem dX3_roundOf_63 : decode cX3_roundOf 63 = .ok (.aload_n 0, 1) := by decide +kernel
theorem dX3_roundOf_64 : decode cX3_roundOf 64 = .ok (.getfield 36, 3) := by decide +kernel
theorem dX3_roundOf_67 : decode cX3_roundOf 67 = .ok (.lmul, 1) := by decide +kernel
theorem dX3_roundOf_68 : decode cX3_roundOf 68 = .ok (.lcmp, 1) := by decide +kernel
theorem dX3_roundOf_69 : decode cX3_roundOf 69 = .ok (.ifCond .ne 7, 3) := by decide +kernel
theorem dX3_roundOf_72 : decode cX3_roundOf 72 = .ok (.iconst 1, 1) := by decide +kernel
theorem dX3_roundOf_73 : decode cX3_roundOf 73 = .ok (.goto 4, 3) := by decide +kernel
theorem dX3_roundOf_76 : decode cX3_roundOf 76 = .ok (.iconst 2, 1) := by decide +kernel
theorem dX3_roundOf_77 : decode cX3_roundOf 77 = .ok (.ireturn, 1) := by decide +kernel
set_option maxRecDepth 20000 in
theorem ggX3_round_X3_isBench : GoodIn wsX3_round wsX3_isBench := goodIn_r _ [5, 6, 7, 8, 9, 4, 10, 56, 57, 58, 59, 60, 61, 62, 63, 64] (by decide +kernel) (by decide +kernel)
set_option maxRecDepth 20000 in
theorem gX3_round_X3_isBench : GoodIn wsX3_round (wsV RX3 44 RX3 yX3_isBench wsX3_isBench) := goodIn_app (goodIn_of _ (by decide +kernel)) ggX3_round_X3_isBench
set_option maxRecDepth 20000 in
theorem ggX3_round_X3_isWay : GoodIn wsX3_round wsX3_isWay := goodIn_r _ [14] (by decide +kernel) (by decide +kernel)
set_option maxRecDepth 20000 in
theorem gX3_round_X3_isWay : GoodIn wsX3_round (wsV RX3 84 RX3 yX3_isWay wsX3_isWay) := goodIn_app (goodIn_of _ (by decide +kernel)) ggX3_round_X3_isWay
set_option maxRecDepth 20000 in
theorem ggX3_round_X3_roundOf : GoodIn wsX3_round wsX3_roundOf := goodIn_r _ [18, 19, 20, 21, 22, 23, 24, 25, 26, 4, 27, 28, 29, 30, 31, 32, 33, 34, 35, 36, 37, 38, 39, 40, 41, 42, 43, 44, 45, 46, 47, 48, 49, 50, 51, 52, 53, 54, 55, 56, 57, 58, 59, 60, 61, 62, 63, 64] (by decide +kernel) (by decide +kernel)
set_option maxRecDepth 20000 in
theorem gX3_round_X3_roundOf : GoodIn wsX3_round (wsV RX3 121 RX3 yX3_roundOf wsX3_roundOf) := goodIn_app (goodIn_of _ (by decide +kernel)) ggX3_round_X3_roundOf
theorem dX3_round_0 : decode cX3_round 0 = .ok (.aload_n 0, 1) := by decide +kernel
theorem dX3_round_1 : decode cX3_round 1 = .ok (.iload_n 1, 1) := by decide +kernel
theorem dX3_round_2 : decode cX3_round 2 = .ok (.invokevirtual 44, 3) := by decide +kernel
theorem dX3_round_5 : decode cX3_round 5 = .ok (.ifCond .eq 20, 3) := by decide +kernel
theorem dX3_round_8 : decode cX3_round 8 = .ok (.aload_n 0, 1) := by decide +kernel
theorem dX3_round_9 : decode cX3_round 9 = .ok (.iload_n 2, 1) := by decide +kernel
theorem dX3_round_10 : decode cX3_round 10 = .ok (.invokevirtual 84, 3) := by decide +kernel
theorem dX3_round_13 : decode cX3_round 13 = .ok (.ifCond .eq 12, 3) := by decide +kernel
theorem dX3_round_16 : decode cX3_round 16 = .ok (.aload_n 0, 1) := by decide +kernel
theorem dX3_round_17 : decode cX3_round 17 = .ok (.iload_n 1, 1) := by decide +kernel
theorem dX3_round_18 : decode cX3_round 18 = .ok (.iload_n 2, 1) := by decide +kernel
theorem dX3_round_19 : decode cX3_round 19 = .ok (.invokevirtual 121, 3) := by decide +kernel
theorem dX3_round_22 : decode cX3_round 22 = .ok (.goto 4, 3) := by decide +kernel
theorem dX3_round_25 : decode cX3_round 25 = .ok (.iconst (-1), 1) := by decide +kernel
theorem dX3_round_26 : decode cX3_round 26 = .ok (.ireturn, 1) := by decide +kernel
set_option maxRecDepth 20000 in
theorem ggX3_trace_X3_isBench : GoodIn wsX3_trace wsX3_isBench := goodIn_r _ [8, 9, 10, 11, 12, 7, 13, 50, 51, 52, 53, 54, 55, 56, 57, 58] (by decide +kernel) (by decide +kernel)
set_option maxRecDepth 20000 in
theorem gX3_trace_X3_isBench : GoodIn wsX3_trace (wsV RX3 44 RX3 yX3_isBench wsX3_isBench) := goodIn_app (goodIn_of _ (by decide +kernel)) ggX3_trace_X3_isBench
set_option maxRecDepth 20000 in
theorem ggX3_trace_X3_isWay : GoodIn wsX3_trace wsX3_isWay := goodIn_r _ [17] (by decide +kernel) (by decide +kernel)
set_option maxRecDepth 20000 in
theorem gX3_trace_X3_isWay : GoodIn wsX3_trace (wsV RX3 84 RX3 yX3_isWay wsX3_isWay) := goodIn_app (goodIn_of _ (by decide +kernel)) ggX3_trace_X3_isWay
set_option maxRecDepth 20000 in
theorem ggX3_trace_X3_in : GoodIn wsX3_trace wsX3_in := goodIn_r _ [13] (by decide +kernel) (by decide +kernel)
set_option maxRecDepth 20000 in
theorem gX3_trace_X3_in : GoodIn wsX3_trace (wsV RX3 40 RX3 yX3_in wsX3_in) := goodIn_app (goodIn_of _ (by decide +kernel)) ggX3_trace_X3_in
set_option maxRecDepth 20000 in
theorem ggX3_trace_X3_work : GoodIn wsX3_trace wsX3_work := goodIn_r _ [21, 2, 22, 23, 24, 7, 25, 26, 3, 27, 28, 29, 30, 31, 32, 33, 34, 35, 36, 37, 50, 51, 52, 53, 54, 55, 56, 57, 58] (by decide +kernel) (by decide +kernel)
set_option maxRecDepth 20000 in
theorem gX3_trace_X3_work : GoodIn wsX3_trace (wsV RX3 89 RX3 yX3_work wsX3_work) := goodIn_app (goodIn_of _ (by decide +kernel)) ggX3_trace_X3_work
set_option maxRecDepth 20000 in
theorem ggX3_trace_X3_traceOf : GoodIn wsX3_trace wsX3_traceOf := goodIn_r _ [41, 26, 50, 51, 52, 53, 54, 55, 56, 57, 58] (by decide +kernel) (by decide +kernel)
set_option maxRecDepth 20000 in
theorem gX3_trace_X3_traceOf : GoodIn wsX3_trace (wsV RX3 103 RX3 yX3_traceOf wsX3_traceOf) := goodIn_app (goodIn_of _ (by decide +kernel)) ggX3_trace_X3_traceOf
set_option maxRecDepth 20000 in
theorem ggX3_trace_X3_lowest : GoodIn wsX3_trace wsX3_lowest := goodIn_r _ [45, 46, 47, 48, 7, 49] (by decide +kernel) (by decide +kernel)
set_option maxRecDepth 20000 in
theorem gX3_trace_X3_lowest : GoodIn wsX3_trace (wsV RX3 92 RX3 yX3_lowest wsX3_lowest) := goodIn_app (goodIn_of _ (by decide +kernel)) ggX3_trace_X3_lowest
theorem dX3_trace_0 : decode cX3_trace 0 = .ok (.aload_n 0, 1) := by decide +kernel
theorem dX3_trace_1 : decode cX3_trace 1 = .ok (.iload_n 1, 1) := by decide +kernel
theorem dX3_trace_2 : decode cX3_trace 2 = .ok (.invokevirtual 44, 3) := by decide +kernel
theorem dX3_trace_5 : decode cX3_trace 5 = .ok (.ifCond .eq 21, 3) := by decide +kernel
theorem dX3_trace_8 : decode cX3_trace 8 = .ok (.aload_n 0, 1) := by decide +kernel
theorem dX3_trace_9 : decode cX3_trace 9 = .ok (.iload_n 2, 1) := by decide +kernel
theorem dX3_trace_10 : decode cX3_trace 10 = .ok (.invokevirtual 84, 3) := by decide +kernel
theorem dX3_trace_13 : decode cX3_trace 13 = .ok (.ifCond .eq 13, 3) := by decide +kernel
theorem dX3_trace_16 : decode cX3_trace 16 = .ok (.aload_n 0, 1) := by decide +kernel
theorem dX3_trace_17 : decode cX3_trace 17 = .ok (.iload_n 3, 1) := by decide +kernel
theorem dX3_trace_18 : decode cX3_trace 18 = .ok (.iconst 0, 1) := by decide +kernel
theorem dX3_trace_19 : decode cX3_trace 19 = .ok (.iconst 1, 1) := by decide +kernel
theorem dX3_trace_20 : decode cX3_trace 20 = .ok (.invokevirtual 40, 3) := by decide +kernel
theorem dX3_trace_23 : decode cX3_trace 23 = .ok (.ifCond .ne 7, 3) := by decide +kernel
theorem dX3_trace_26 : decode cX3_trace 26 = .ok (.ldc2_w 87, 3) := by decide +kernel
theorem dX3_trace_29 : decode cX3_trace 29 = .ok (.lreturn, 1) := by decide +kernel
theorem dX3_trace_30 : decode cX3_trace 30 = .ok (.aload_n 0, 1) := by decide +kernel
theorem dX3_trace_31 : decode cX3_trace 31 = .ok (.iload_n 1, 1) := by decide +kernel
theorem dX3_trace_32 : decode cX3_trace 32 = .ok (.iload_n 2, 1) := by decide +kernel
theorem dX3_trace_33 : decode cX3_trace 33 = .ok (.iconst 0, 1) := by decide +kernel
theorem dX3_trace_34 : decode cX3_trace 34 = .ok (.aload_n 0, 1) := by decide +kernel
theorem dX3_trace_35 : decode cX3_trace 35 = .ok (.getfield 13, 3) := by decide +kernel
theorem dX3_trace_38 : decode cX3_trace 38 = .ok (.iload_n 1, 1) := by decide +kernel
theorem dX3_trace_39 : decode cX3_trace 39 = .ok (.iaload, 1) := by decide +kernel
theorem dX3_trace_40 : decode cX3_trace 40 = .ok (.invokevirtual 89, 3) := by decide +kernel
theorem dX3_trace_43 : decode cX3_trace 43 = .ok (.aload_n 0, 1) := by decide +kernel
theorem dX3_trace_44 : decode cX3_trace 44 = .ok (.aload_n 0, 1) := by decide +kernel
theorem dX3_trace_45 : decode cX3_trace 45 = .ok (.invokevirtual 103, 3) := by decide +kernel
theorem dX3_trace_48 : decode cX3_trace 48 = .ok (.aload_n 0, 1) := by decide +kernel
theorem dX3_trace_49 : decode cX3_trace 49 = .ok (.getfield 36, 3) := by decide +kernel
theorem dX3_trace_52 : decode cX3_trace 52 = .ok (.iload_n 3, 1) := by decide +kernel
theorem dX3_trace_53 : decode cX3_trace 53 = .ok (.invokevirtual 92, 3) := by decide +kernel
theorem dX3_trace_56 : decode cX3_trace 56 = .ok (.lreturn, 1) := by decide +kernel
set_option maxRecDepth 20000 in
theorem ggX3_turns_X3_isBench : GoodIn wsX3_turns wsX3_isBench := goodIn_r _ [8, 9, 10, 11, 12, 7, 13, 46, 47, 48, 49, 50, 51, 52, 53, 54] (by decide +kernel) (by decide +kernel)
set_option maxRecDepth 20000 in
theorem gX3_turns_X3_isBench : GoodIn wsX3_turns (wsV RX3 44 RX3 yX3_isBench wsX3_isBench) := goodIn_app (goodIn_of _ (by decide +kernel)) ggX3_turns_X3_isBench
set_option maxRecDepth 20000 in
theorem ggX3_turns_X3_isWay : GoodIn wsX3_turns wsX3_isWay := goodIn_r _ [17] (by decide +kernel) (by decide +kernel)
set_option maxRecDepth 20000 in
theorem gX3_turns_X3_isWay : GoodIn wsX3_turns (wsV RX3 84 RX3 yX3_isWay wsX3_isWay) := goodIn_app (goodIn_of _ (by decide +kernel)) ggX3_turns_X3_isWay
set_option maxRecDepth 20000 in
theorem ggX3_turns_X3_work : GoodIn wsX3_turns wsX3_work := goodIn_r _ [21, 1, 22, 23, 24, 7, 25, 26, 3, 27, 28, 29, 30, 31, 32, 33, 34, 35, 36, 37, 46, 47, 48, 49, 50, 51, 52, 53, 54] (by decide +kernel) (by decide +kernel)
set_option maxRecDepth 20000 in
theorem gX3_turns_X3_work : GoodIn wsX3_turns (wsV RX3 89 RX3 yX3_work wsX3_work) := goodIn_app (goodIn_of _ (by decide +kernel)) ggX3_turns_X3_work
set_option maxRecDepth 20000 in
theorem ggX3_turns_X3_isPlain : GoodIn wsX3_turns wsX3_isPlain := goodIn_r _ [41, 26, 3, 46, 47, 48, 49, 50, 51, 52, 53, 54] (by decide +kernel) (by decide +kernel)
set_option maxRecDepth 20000 in
theorem gX3_turns_X3_isPlain : GoodIn wsX3_turns (wsV RX3 115 RX3 yX3_isPlain wsX3_isPlain) := goodIn_app (goodIn_of _ (by decide +kernel)) ggX3_turns_X3_isPlain
set_option maxRecDepth 20000 in
theorem ggX3_turns_X3_traceOf : GoodIn wsX3_turns wsX3_traceOf := goodIn_r _ [45, 26, 46, 47, 48, 49, 50, 51, 52, 53, 54] (by decide +kernel) (by decide +kernel)
set_option maxRecDepth 20000 in
theorem gX3_turns_X3_traceOf : GoodIn wsX3_turns (wsV RX3 103 RX3 yX3_traceOf wsX3_traceOf) := goodIn_app (goodIn_of _ (by decide +kernel)) ggX3_turns_X3_traceOf
theorem dX3_turns_0 : decode cX3_turns 0 = .ok (.aload_n 0, 1) := by decide +kernel
theorem dX3_turns_1 : decode cX3_turns 1 = .ok (.iload_n 1, 1) := by decide +kernel
theorem dX3_turns_2 : decode cX3_turns 2 = .ok (.invokevirtual 44, 3) := by decide +kernel
theorem dX3_turns_5 : decode cX3_turns 5 = .ok (.ifCond .eq 11, 3) := by decide +kernel
theorem dX3_turns_8 : decode cX3_turns 8 = .ok (.aload_n 0, 1) := by decide +kernel
theorem dX3_turns_9 : decode cX3_turns 9 = .ok (.iload_n 2, 1) := by decide +kernel
theorem dX3_turns_10 : decode cX3_turns 10 = .ok (.invokevirtual 84, 3) := by decide +kernel
theorem dX3_turns_13 : decode cX3_turns 13 = .ok (.ifCond .ne 5, 3) := by decide +kernel
theorem dX3_turns_16 : decode cX3_turns 16 = .ok (.iconst (-1), 1) := by decide +kernel
theorem dX3_turns_17 : decode cX3_turns 17 = .ok (.ireturn, 1) := by decide +kernel
theorem dX3_turns_18 : decode cX3_turns 18 = .ok (.aload_n 0, 1) := by decide +kernel
theorem dX3_turns_19 : decode cX3_turns 19 = .ok (.iload_n 1, 1) := by decide +kernel
theorem dX3_turns_20 : decode cX3_turns 20 = .ok (.iload_n 2, 1) := by decide +kernel
theorem dX3_turns_21 : decode cX3_turns 21 = .ok (.iconst 0, 1) := by decide +kernel
theorem dX3_turns_22 : decode cX3_turns 22 = .ok (.aload_n 0, 1) := by decide +kernel
theorem dX3_turns_23 : decode cX3_turns 23 = .ok (.getfield 13, 3) := by decide +kernel
theorem dX3_turns_26 : decode cX3_turns 26 = .ok (.iload_n 1, 1) := by decide +kernel
theorem dX3_turns_27 : decode cX3_turns 27 = .ok (.iaload, 1) := by decide +kernel
theorem dX3_turns_28 : decode cX3_turns 28 = .ok (.invokevirtual 89, 3) := by decide +kernel
theorem dX3_turns_31 : decode cX3_turns 31 = .ok (.aload_n 0, 1) := by decide +kernel
theorem dX3_turns_32 : decode cX3_turns 32 = .ok (.lconst 1, 1) := by decide +kernel
theorem dX3_turns_33 : decode cX3_turns 33 = .ok (.invokevirtual 115, 3) := by decide +kernel
theorem dX3_turns_36 : decode cX3_turns 36 = .ok (.ifCond .eq 5, 3) := by decide +kernel
theorem dX3_turns_39 : decode cX3_turns 39 = .ok (.iconst 1, 1) := by decide +kernel
theorem dX3_turns_40 : decode cX3_turns 40 = .ok (.ireturn, 1) := by decide +kernel
theorem dX3_turns_41 : decode cX3_turns 41 = .ok (.aload_n 0, 1) := by decide +kernel
theorem dX3_turns_42 : decode cX3_turns 42 = .ok (.ldc2_w 119, 3) := by decide +kernel
theorem dX3_turns_45 : decode cX3_turns 45 = .ok (.invokevirtual 115, 3) := by decide +kernel
theorem dX3_turns_48 : decode cX3_turns 48 = .ok (.ifCond .eq 5, 3) := by decide +kernel
theorem dX3_turns_51 : decode cX3_turns 51 = .ok (.iconst 2, 1) := by decide +kernel
theorem dX3_turns_52 : decode cX3_turns 52 = .ok (.ireturn, 1) := by decide +kernel
theorem dX3_turns_53 : decode cX3_turns 53 = .ok (.aload_n 0, 1) := by decide +kernel
theorem dX3_turns_54 : decode cX3_turns 54 = .ok (.invokevirtual 103, 3) := by decide +kernel
theorem dX3_turns_57 : decode cX3_turns 57 = .ok (.aload_n 0, 1) := by decide +kernel
theorem dX3_turns_58 : decode cX3_turns 58 = .ok (.getfield 36, 3) := by decide +kernel
theorem dX3_turns_61 : decode cX3_turns 61 = .ok (.lneg, 1) := by decide +kernel
theorem dX3_turns_62 : decode cX3_turns 62 = .ok (.lcmp, 1) := by decide +kernel
theorem dX3_turns_63 : decode cX3_turns 63 = .ok (.ifCond .ne 7, 3) := by decide +kernel
theorem dX3_turns_66 : decode cX3_turns 66 = .ok (.iconst 3, 1) := by decide +kernel
theorem dX3_turns_67 : decode cX3_turns 67 = .ok (.goto 34, 3) := by decide +kernel
theorem dX3_turns_70 : decode cX3_turns 70 = .ok (.aload_n 0, 1) := by decide +kernel
theorem dX3_turns_71 : decode cX3_turns 71 = .ok (.invokevirtual 103, 3) := by decide +kernel
theorem dX3_turns_74 : decode cX3_turns 74 = .ok (.lconst 0, 1) := by decide +kernel
theorem dX3_turns_75 : decode cX3_turns 75 = .ok (.lcmp, 1) := by decide +kernel
theorem dX3_turns_76 : decode cX3_turns 76 = .ok (.ifCond .ne 7, 3) := by decide +kernel
theorem dX3_turns_79 : decode cX3_turns 79 = .ok (.iconst 4, 1) := by decide +kernel
theorem dX3_turns_80 : decode cX3_turns 80 = .ok (.goto 21, 3) := by decide +kernel
theorem dX3_turns_83 : decode cX3_turns 83 = .ok (.aload_n 0, 1) := by decide +kernel
theorem dX3_turns_84 : decode cX3_turns 84 = .ok (.invokevirtual 103, 3) := by decide +kernel
theorem dX3_turns_87 : decode cX3_turns 87 = .ok (.aload_n 0, 1) := by decide +kernel
theorem dX3_turns_88 : decode cX3_turns 88 = .ok (.getfield 36, 3) := by decide +kernel
theorem dX3_turns_91 : decode cX3_turns 91 = .ok (.lcmp, 1) := by decide +kernel
theorem dX3_turns_92 : decode cX3_turns 92 = .ok (.ifCond .ne 8, 3) := by decide +kernel
theorem dX3_turns_95 : decode cX3_turns 95 = .ok (.bipush 6, 2) := by decide +kernel
theorem dX3_turns_97 : decode cX3_turns 97 = .ok (.goto 4, 3) := by decide +kernel
theorem dX3_turns_100 : decode cX3_turns 100 = .ok (.iconst 0, 1) := by decide +kernel
theorem dX3_turns_101 : decode cX3_turns 101 = .ok (.ireturn, 1) := by decide +kernel
theorem dX3_wideAbove_0 : decode cX3_wideAbove 0 = .ok (.ldc2_w 125, 3) := by decide +kernel
theorem dX3_wideAbove_3 : decode cX3_wideAbove 3 = .ok (.aload_n 0, 1) := by decide +kernel
theorem dX3_wideAbove_4 : decode cX3_wideAbove 4 = .ok (.getfield 32, 3) := by decide +kernel
theorem dX3_wideAbove_7 : decode cX3_wideAbove 7 = .ok (.iconst 1, 1) := by decide +kernel
theorem dX3_wideAbove_8 : decode cX3_wideAbove 8 = .ok (.laload, 1) := by decide +kernel
theorem dX3_wideAbove_9 : decode cX3_wideAbove 9 = .ok (.lmul, 1) := by decide +kernel
theorem dX3_wideAbove_10 : decode cX3_wideAbove 10 = .ok (.aload_n 0, 1) := by decide +kernel
theorem dX3_wideAbove_11 : decode cX3_wideAbove 11 = .ok (.getfield 32, 3) := by decide +kernel
theorem dX3_wideAbove_14 : decode cX3_wideAbove 14 = .ok (.iconst 1, 1) := by decide +kernel
theorem dX3_wideAbove_15 : decode cX3_wideAbove 15 = .ok (.laload, 1) := by decide +kernel
theorem dX3_wideAbove_16 : decode cX3_wideAbove 16 = .ok (.lmul, 1) := by decide +kernel
theorem dX3_wideAbove_17 : decode cX3_wideAbove 17 = .ok (.lreturn, 1) := by decide +kernel
set_option maxRecDepth 20000 in
theorem ggX3_wideBelow_X3_traceOf : GoodIn wsX3_wideBelow wsX3_traceOf := goodIn_r _ [7, 8, 9, 10, 11, 12, 13, 14, 15, 16, 17] (by decide +kernel) (by decide +kernel)
set_option maxRecDepth 20000 in
theorem gX3_wideBelow_X3_traceOf : GoodIn wsX3_wideBelow (wsV RX3 103 RX3 yX3_traceOf wsX3_traceOf) := goodIn_app (goodIn_of _ (by decide +kernel)) ggX3_wideBelow_X3_traceOf
theorem dX3_wideBelow_0 : decode cX3_wideBelow 0 = .ok (.ldc2_w 125, 3) := by decide +kernel
theorem dX3_wideBelow_3 : decode cX3_wideBelow 3 = .ok (.aload_n 0, 1) := by decide +kernel
theorem dX3_wideBelow_4 : decode cX3_wideBelow 4 = .ok (.getfield 36, 3) := by decide +kernel
theorem dX3_wideBelow_7 : decode cX3_wideBelow 7 = .ok (.lmul, 1) := by decide +kernel
theorem dX3_wideBelow_8 : decode cX3_wideBelow 8 = .ok (.aload_n 0, 1) := by decide +kernel
theorem dX3_wideBelow_9 : decode cX3_wideBelow 9 = .ok (.getfield 36, 3) := by decide +kernel
theorem dX3_wideBelow_12 : decode cX3_wideBelow 12 = .ok (.lmul, 1) := by decide +kernel
theorem dX3_wideBelow_13 : decode cX3_wideBelow 13 = .ok (.aload_n 0, 1) := by decide +kernel
theorem dX3_wideBelow_14 : decode cX3_wideBelow 14 = .ok (.invokevirtual 103, 3) := by decide +kernel
theorem dX3_wideBelow_17 : decode cX3_wideBelow 17 = .ok (.aload_n 0, 1) := by decide +kernel
theorem dX3_wideBelow_18 : decode cX3_wideBelow 18 = .ok (.invokevirtual 103, 3) := by decide +kernel
theorem dX3_wideBelow_21 : decode cX3_wideBelow 21 = .ok (.lmul, 1) := by decide +kernel
theorem dX3_wideBelow_22 : decode cX3_wideBelow 22 = .ok (.lsub, 1) := by decide +kernel
theorem dX3_wideBelow_23 : decode cX3_wideBelow 23 = .ok (.lreturn, 1) := by decide +kernel
set_option maxRecDepth 20000 in
theorem ggX3_beam_X3_isPart : GoodIn wsX3_beam wsX3_isPart := goodIn_r _ [9, 2, 10, 11, 12, 8, 13, 14, 15, 16, 17, 18, 69, 70, 71, 72, 73, 74, 75, 76, 77] (by decide +kernel) (by decide +kernel)
set_option maxRecDepth 20000 in
theorem gX3_beam_X3_isPart : GoodIn wsX3_beam (wsV RX3 65 RX3 yX3_isPart wsX3_isPart) := goodIn_app (goodIn_of _ (by decide +kernel)) ggX3_beam_X3_isPart
set_option maxRecDepth 20000 in
theorem ggX3_beam_X3_isWay : GoodIn wsX3_beam wsX3_isWay := goodIn_r _ [22] (by decide +kernel) (by decide +kernel)
set_option maxRecDepth 20000 in
theorem gX3_beam_X3_isWay : GoodIn wsX3_beam (wsV RX3 84 RX3 yX3_isWay wsX3_isWay) := goodIn_app (goodIn_of _ (by decide +kernel)) ggX3_beam_X3_isWay
set_option maxRecDepth 20000 in
theorem ggX3_beam_X3_in : GoodIn wsX3_beam wsX3_in := goodIn_r _ [18] (by decide +kernel) (by decide +kernel)
set_option maxRecDepth 20000 in
theorem gX3_beam_X3_in : GoodIn wsX3_beam (wsV RX3 40 RX3 yX3_in wsX3_in) := goodIn_app (goodIn_of _ (by decide +kernel)) ggX3_beam_X3_in
set_option maxRecDepth 20000 in
theorem ggX3_beam_X3_work : GoodIn wsX3_beam wsX3_work := goodIn_r _ [26, 2, 27, 28, 29, 8, 30, 3, 31, 32, 33, 34, 35, 36, 37, 38, 39, 40, 41, 42, 69, 70, 71, 72, 73, 74, 75, 76, 77] (by decide +kernel) (by decide +kernel)
set_option maxRecDepth 20000 in
theorem gX3_beam_X3_work : GoodIn wsX3_beam (wsV RX3 89 RX3 yX3_work wsX3_work) := goodIn_app (goodIn_of _ (by decide +kernel)) ggX3_beam_X3_work
set_option maxRecDepth 20000 in
theorem ggX3_beam_X3_isBetween : GoodIn wsX3_beam wsX3_isBetween := goodIn_r _ [46, 4, 31, 47, 48, 49, 50, 8, 51, 3, 69, 70, 71, 72, 73, 74, 75, 76, 77] (by decide +kernel) (by decide +kernel)
set_option maxRecDepth 20000 in
theorem gX3_beam_X3_isBetween : GoodIn wsX3_beam (wsV RX3 111 RX3 yX3_isBetween wsX3_isBetween) := goodIn_app (goodIn_of _ (by decide +kernel)) ggX3_beam_X3_isBetween
set_option maxRecDepth 20000 in
theorem ggX3_beam_X3_wideAbove : GoodIn wsX3_beam wsX3_wideAbove := goodIn_r _ [55, 56, 3, 69, 70, 71, 72, 73, 74, 75, 76, 77] (by decide +kernel) (by decide +kernel)
set_option maxRecDepth 20000 in
theorem gX3_beam_X3_wideAbove : GoodIn wsX3_beam (wsV RX3 127 RX3 yX3_wideAbove wsX3_wideAbove) := goodIn_app (goodIn_of _ (by decide +kernel)) ggX3_beam_X3_wideAbove
set_option maxRecDepth 20000 in
theorem ggX3_beam_X3_wideBelow : GoodIn wsX3_beam wsX3_wideBelow := goodIn_r _ [60, 56, 31, 48, 49, 50, 8, 51, 3, 69, 70, 71, 72, 73, 74, 75, 76, 77] (by decide +kernel) (by decide +kernel)
set_option maxRecDepth 20000 in
theorem gX3_beam_X3_wideBelow : GoodIn wsX3_beam (wsV RX3 130 RX3 yX3_wideBelow wsX3_wideBelow) := goodIn_app (goodIn_of _ (by decide +kernel)) ggX3_beam_X3_wideBelow
set_option maxRecDepth 20000 in
theorem ggX3_beam_X3_lowest : GoodIn wsX3_beam wsX3_lowest := goodIn_r _ [64, 65, 66, 67, 8, 68] (by decide +kernel) (by decide +kernel)
set_option maxRecDepth 20000 in
theorem gX3_beam_X3_lowest : GoodIn wsX3_beam (wsV RX3 92 RX3 yX3_lowest wsX3_lowest) := goodIn_app (goodIn_of _ (by decide +kernel)) ggX3_beam_X3_lowest
theorem dX3_beam_0 : decode cX3_beam 0 = .ok (.aload_n 0, 1) := by decide +kernel
theorem dX3_beam_1 : decode cX3_beam 1 = .ok (.iload_n 1, 1) := by decide +kernel
theorem dX3_beam_2 : decode cX3_beam 2 = .ok (.iload_n 3, 1) := by decide +kernel
theorem dX3_beam_3 : decode cX3_beam 3 = .ok (.invokevirtual 65, 3) := by decide +kernel
theorem dX3_beam_6 : decode cX3_beam 6 = .ok (.ifCond .eq 33, 3) := by decide +kernel
theorem dX3_beam_9 : decode cX3_beam 9 = .ok (.aload_n 0, 1) := by decide +kernel
theorem dX3_beam_10 : decode cX3_beam 10 = .ok (.iload_n 2, 1) := by decide +kernel
theorem dX3_beam_11 : decode cX3_beam 11 = .ok (.invokevirtual 84, 3) := by decide +kernel
theorem dX3_beam_14 : decode cX3_beam 14 = .ok (.ifCond .eq 25, 3) := by decide +kernel
theorem dX3_beam_17 : decode cX3_beam 17 = .ok (.aload_n 0, 1) := by decide +kernel
theorem dX3_beam_18 : decode cX3_beam 18 = .ok (.iload 4, 2) := by decide +kernel
theorem dX3_beam_20 : decode cX3_beam 20 = .ok (.iconst 0, 1) := by decide +kernel
theorem dX3_beam_21 : decode cX3_beam 21 = .ok (.iconst 1, 1) := by decide +kernel
theorem dX3_beam_22 : decode cX3_beam 22 = .ok (.invokevirtual 40, 3) := by decide +kernel
theorem dX3_beam_25 : decode cX3_beam 25 = .ok (.ifCond .eq 14, 3) := by decide +kernel
theorem dX3_beam_28 : decode cX3_beam 28 = .ok (.aload_n 0, 1) := by decide +kernel
theorem dX3_beam_29 : decode cX3_beam 29 = .ok (.iload 5, 2) := by decide +kernel
theorem dX3_beam_31 : decode cX3_beam 31 = .ok (.iconst 0, 1) := by decide +kernel
theorem dX3_beam_32 : decode cX3_beam 32 = .ok (.iconst 1, 1) := by decide +kernel
theorem dX3_beam_33 : decode cX3_beam 33 = .ok (.invokevirtual 40, 3) := by decide +kernel
theorem dX3_beam_36 : decode cX3_beam 36 = .ok (.ifCond .ne 7, 3) := by decide +kernel
theorem dX3_beam_39 : decode cX3_beam 39 = .ok (.ldc2_w 87, 3) := by decide +kernel
theorem dX3_beam_42 : decode cX3_beam 42 = .ok (.lreturn, 1) := by decide +kernel
theorem dX3_beam_43 : decode cX3_beam 43 = .ok (.aload_n 0, 1) := by decide +kernel
theorem dX3_beam_44 : decode cX3_beam 44 = .ok (.iload_n 1, 1) := by decide +kernel
theorem dX3_beam_45 : decode cX3_beam 45 = .ok (.iload_n 2, 1) := by decide +kernel
theorem dX3_beam_46 : decode cX3_beam 46 = .ok (.iload_n 3, 1) := by decide +kernel
theorem dX3_beam_47 : decode cX3_beam 47 = .ok (.aload_n 0, 1) := by decide +kernel
theorem dX3_beam_48 : decode cX3_beam 48 = .ok (.getfield 13, 3) := by decide +kernel
theorem dX3_beam_51 : decode cX3_beam 51 = .ok (.iload_n 1, 1) := by decide +kernel
theorem dX3_beam_52 : decode cX3_beam 52 = .ok (.iaload, 1) := by decide +kernel
theorem dX3_beam_53 : decode cX3_beam 53 = .ok (.invokevirtual 89, 3) := by decide +kernel
theorem dX3_beam_56 : decode cX3_beam 56 = .ok (.aload_n 0, 1) := by decide +kernel
theorem dX3_beam_57 : decode cX3_beam 57 = .ok (.invokevirtual 111, 3) := by decide +kernel
theorem dX3_beam_60 : decode cX3_beam 60 = .ok (.ifCond .ne 7, 3) := by decide +kernel
theorem dX3_beam_63 : decode cX3_beam 63 = .ok (.ldc2_w 87, 3) := by decide +kernel
theorem dX3_beam_66 : decode cX3_beam 66 = .ok (.lreturn, 1) := by decide +kernel
theorem dX3_beam_67 : decode cX3_beam 67 = .ok (.iload 4, 2) := by decide +kernel
theorem dX3_beam_69 : decode cX3_beam 69 = .ok (.ifCond .ne 20, 3) := by decide +kernel
theorem dX3_beam_72 : decode cX3_beam 72 = .ok (.aload_n 0, 1) := by decide +kernel
theorem dX3_beam_73 : decode cX3_beam 73 = .ok (.aload_n 0, 1) := by decide +kernel
theorem dX3_beam_74 : decode cX3_beam 74 = .ok (.invokevirtual 127, 3) := by decide +kernel
theorem dX3_beam_77 : decode cX3_beam 77 = .ok (.aload_n 0, 1) := by decide +kernel
theorem dX3_beam_78 : decode cX3_beam 78 = .ok (.invokevirtual 130, 3) := by decide +kernel
theorem dX3_beam_81 : decode cX3_beam 81 = .ok (.iload 5, 2) := by decide +kernel
theorem dX3_beam_83 : decode cX3_beam 83 = .ok (.invokevirtual 92, 3) := by decide +kernel
theorem dX3_beam_86 : decode cX3_beam 86 = .ok (.goto 32, 3) := by decide +kernel
theorem dX3_beam_89 : decode cX3_beam 89 = .ok (.aload_n 0, 1) := by decide +kernel
theorem dX3_beam_90 : decode cX3_beam 90 = .ok (.aload_n 0, 1) := by decide +kernel
theorem dX3_beam_91 : decode cX3_beam 91 = .ok (.getfield 32, 3) := by decide +kernel
theorem dX3_beam_94 : decode cX3_beam 94 = .ok (.iconst 3, 1) := by decide +kernel
theorem dX3_beam_95 : decode cX3_beam 95 = .ok (.laload, 1) := by decide +kernel
theorem dX3_beam_96 : decode cX3_beam 96 = .ok (.aload_n 0, 1) := by decide +kernel
theorem dX3_beam_97 : decode cX3_beam 97 = .ok (.getfield 32, 3) := by decide +kernel
theorem dX3_beam_100 : decode cX3_beam 100 = .ok (.iconst 0, 1) := by decide +kernel
theorem dX3_beam_101 : decode cX3_beam 101 = .ok (.laload, 1) := by decide +kernel
theorem dX3_beam_102 : decode cX3_beam 102 = .ok (.lsub, 1) := by decide +kernel
theorem dX3_beam_103 : decode cX3_beam 103 = .ok (.ldc2_w 107, 3) := by decide +kernel
theorem dX3_beam_106 : decode cX3_beam 106 = .ok (.aload_n 0, 1) := by decide +kernel
theorem dX3_beam_107 : decode cX3_beam 107 = .ok (.getfield 32, 3) := by decide +kernel
theorem dX3_beam_110 : decode cX3_beam 110 = .ok (.iconst 1, 1) := by decide +kernel
theorem dX3_beam_111 : decode cX3_beam 111 = .ok (.laload, 1) := by decide +kernel
theorem dX3_beam_112 : decode cX3_beam 112 = .ok (.lmul, 1) := by decide +kernel
theorem dX3_beam_113 : decode cX3_beam 113 = .ok (.iload 5, 2) := by decide +kernel
theorem dX3_beam_115 : decode cX3_beam 115 = .ok (.invokevirtual 92, 3) := by decide +kernel
theorem dX3_beam_118 : decode cX3_beam 118 = .ok (.lreturn, 1) := by decide +kernel
set_option maxRecDepth 20000 in
theorem ggX3_waist_X3_isBench : GoodIn wsX3_waist wsX3_isBench := goodIn_r _ [7, 8, 9, 10, 11, 6, 12, 47, 48, 49, 50, 51, 52, 53, 54, 55] (by decide +kernel) (by decide +kernel)
set_option maxRecDepth 20000 in
theorem gX3_waist_X3_isBench : GoodIn wsX3_waist (wsV RX3 44 RX3 yX3_isBench wsX3_isBench) := goodIn_app (goodIn_of _ (by decide +kernel)) ggX3_waist_X3_isBench
set_option maxRecDepth 20000 in
theorem ggX3_waist_X3_isWay : GoodIn wsX3_waist wsX3_isWay := goodIn_r _ [16] (by decide +kernel) (by decide +kernel)
set_option maxRecDepth 20000 in
theorem gX3_waist_X3_isWay : GoodIn wsX3_waist (wsV RX3 84 RX3 yX3_isWay wsX3_isWay) := goodIn_app (goodIn_of _ (by decide +kernel)) ggX3_waist_X3_isWay
set_option maxRecDepth 20000 in
theorem ggX3_waist_X3_work : GoodIn wsX3_waist wsX3_work := goodIn_r _ [20, 1, 21, 22, 23, 6, 24, 2, 25, 26, 27, 28, 29, 30, 31, 32, 33, 34, 35, 36, 47, 48, 49, 50, 51, 52, 53, 54, 55] (by decide +kernel) (by decide +kernel)
set_option maxRecDepth 20000 in
theorem gX3_waist_X3_work : GoodIn wsX3_waist (wsV RX3 89 RX3 yX3_work wsX3_work) := goodIn_app (goodIn_of _ (by decide +kernel)) ggX3_waist_X3_work
set_option maxRecDepth 20000 in
theorem ggX3_waist_X3_isBetween : GoodIn wsX3_waist wsX3_isBetween := goodIn_r _ [40, 41, 25, 42, 43, 44, 45, 6, 46, 2, 47, 48, 49, 50, 51, 52, 53, 54, 55] (by decide +kernel) (by decide +kernel)
set_option maxRecDepth 20000 in
theorem gX3_waist_X3_isBetween : GoodIn wsX3_waist (wsV RX3 111 RX3 yX3_isBetween wsX3_isBetween) := goodIn_app (goodIn_of _ (by decide +kernel)) ggX3_waist_X3_isBetween
theorem dX3_waist_0 : decode cX3_waist 0 = .ok (.aload_n 0, 1) := by decide +kernel
theorem dX3_waist_1 : decode cX3_waist 1 = .ok (.iload_n 1, 1) := by decide +kernel
theorem dX3_waist_2 : decode cX3_waist 2 = .ok (.invokevirtual 44, 3) := by decide +kernel
theorem dX3_waist_5 : decode cX3_waist 5 = .ok (.ifCond .eq 20, 3) := by decide +kernel
theorem dX3_waist_8 : decode cX3_waist 8 = .ok (.aload_n 0, 1) := by decide +kernel
theorem dX3_waist_9 : decode cX3_waist 9 = .ok (.iload_n 2, 1) := by decide +kernel
theorem dX3_waist_10 : decode cX3_waist 10 = .ok (.invokevirtual 84, 3) := by decide +kernel
theorem dX3_waist_13 : decode cX3_waist 13 = .ok (.ifCond .eq 12, 3) := by decide +kernel
theorem dX3_waist_16 : decode cX3_waist 16 = .ok (.aload_n 0, 1) := by decide +kernel
theorem dX3_waist_17 : decode cX3_waist 17 = .ok (.getfield 13, 3) := by decide +kernel
theorem dX3_waist_20 : decode cX3_waist 20 = .ok (.iload_n 1, 1) := by decide +kernel
theorem dX3_waist_21 : decode cX3_waist 21 = .ok (.iaload, 1) := by decide +kernel
theorem dX3_waist_22 : decode cX3_waist 22 = .ok (.ifCond .ne 5, 3) := by decide +kernel
theorem dX3_waist_25 : decode cX3_waist 25 = .ok (.iconst (-1), 1) := by decide +kernel
theorem dX3_waist_26 : decode cX3_waist 26 = .ok (.ireturn, 1) := by decide +kernel
theorem dX3_waist_27 : decode cX3_waist 27 = .ok (.iconst (-1), 1) := by decide +kernel
theorem dX3_waist_28 : decode cX3_waist 28 = .ok (.istore_n 3, 1) := by decide +kernel
theorem dX3_waist_29 : decode cX3_waist 29 = .ok (.lconst 0, 1) := by decide +kernel
theorem dX3_waist_30 : decode cX3_waist 30 = .ok (.lstore 4, 2) := by decide +kernel
theorem dX3_waist_32 : decode cX3_waist 32 = .ok (.iconst 0, 1) := by decide +kernel
theorem dX3_waist_33 : decode cX3_waist 33 = .ok (.istore 6, 2) := by decide +kernel
theorem dX3_waist_35 : decode cX3_waist 35 = .ok (.iload 6, 2) := by decide +kernel
theorem dX3_waist_37 : decode cX3_waist 37 = .ok (.aload_n 0, 1) := by decide +kernel
theorem dX3_waist_38 : decode cX3_waist 38 = .ok (.getfield 13, 3) := by decide +kernel
theorem dX3_waist_41 : decode cX3_waist 41 = .ok (.iload_n 1, 1) := by decide +kernel
theorem dX3_waist_42 : decode cX3_waist 42 = .ok (.iaload, 1) := by decide +kernel
theorem dX3_waist_43 : decode cX3_waist 43 = .ok (.if_icmp .ge 83, 3) := by decide +kernel
theorem dX3_waist_46 : decode cX3_waist 46 = .ok (.aload_n 0, 1) := by decide +kernel
theorem dX3_waist_47 : decode cX3_waist 47 = .ok (.iload_n 1, 1) := by decide +kernel
theorem dX3_waist_48 : decode cX3_waist 48 = .ok (.iload_n 2, 1) := by decide +kernel
theorem dX3_waist_49 : decode cX3_waist 49 = .ok (.iload 6, 2) := by decide +kernel
theorem dX3_waist_51 : decode cX3_waist 51 = .ok (.aload_n 0, 1) := by decide +kernel
theorem dX3_waist_52 : decode cX3_waist 52 = .ok (.getfield 13, 3) := by decide +kernel
theorem dX3_waist_55 : decode cX3_waist 55 = .ok (.iload_n 1, 1) := by decide +kernel
theorem dX3_waist_56 : decode cX3_waist 56 = .ok (.iaload, 1) := by decide +kernel
theorem dX3_waist_57 : decode cX3_waist 57 = .ok (.invokevirtual 89, 3) := by decide +kernel
theorem dX3_waist_60 : decode cX3_waist 60 = .ok (.aload_n 0, 1) := by decide +kernel
theorem dX3_waist_61 : decode cX3_waist 61 = .ok (.invokevirtual 111, 3) := by decide +kernel
theorem dX3_waist_64 : decode cX3_waist 64 = .ok (.ifCond .ne 5, 3) := by decide +kernel
theorem dX3_waist_67 : decode cX3_waist 67 = .ok (.iconst (-1), 1) := by decide +kernel
theorem dX3_waist_68 : decode cX3_waist 68 = .ok (.ireturn, 1) := by decide +kernel
theorem dX3_waist_69 : decode cX3_waist 69 = .ok (.aload_n 0, 1) := by decide +kernel
theorem dX3_waist_70 : decode cX3_waist 70 = .ok (.getfield 32, 3) := by decide +kernel
theorem dX3_waist_73 : decode cX3_waist 73 = .ok (.iconst 1, 1) := by decide +kernel
theorem dX3_waist_74 : decode cX3_waist 74 = .ok (.laload, 1) := by decide +kernel
theorem dX3_waist_75 : decode cX3_waist 75 = .ok (.lconst 0, 1) := by decide +kernel
theorem dX3_waist_76 : decode cX3_waist 76 = .ok (.lcmp, 1) := by decide +kernel
theorem dX3_waist_77 : decode cX3_waist 77 = .ok (.ifCond .ge 13, 3) := by decide +kernel
theorem dX3_waist_80 : decode cX3_waist 80 = .ok (.aload_n 0, 1) := by decide +kernel
theorem dX3_waist_81 : decode cX3_waist 81 = .ok (.getfield 32, 3) := by decide +kernel
theorem dX3_waist_84 : decode cX3_waist 84 = .ok (.iconst 1, 1) := by decide +kernel
theorem dX3_waist_85 : decode cX3_waist 85 = .ok (.laload, 1) := by decide +kernel
theorem dX3_waist_86 : decode cX3_waist 86 = .ok (.lneg, 1) := by decide +kernel
theorem dX3_waist_87 : decode cX3_waist 87 = .ok (.goto 9, 3) := by decide +kernel
theorem dX3_waist_90 : decode cX3_waist 90 = .ok (.aload_n 0, 1) := by decide +kernel
theorem dX3_waist_91 : decode cX3_waist 91 = .ok (.getfield 32, 3) := by decide +kernel
theorem dX3_waist_94 : decode cX3_waist 94 = .ok (.iconst 1, 1) := by decide +kernel
theorem dX3_waist_95 : decode cX3_waist 95 = .ok (.laload, 1) := by decide +kernel
theorem dX3_waist_96 : decode cX3_waist 96 = .ok (.lstore 7, 2) := by decide +kernel
theorem dX3_waist_98 : decode cX3_waist 98 = .ok (.iload_n 3, 1) := by decide +kernel
theorem dX3_waist_99 : decode cX3_waist 99 = .ok (.ifCond .lt 14, 3) := by decide +kernel
theorem dX3_waist_102 : decode cX3_waist 102 = .ok (.lload 7, 2) := by decide +kernel
theorem dX3_waist_104 : decode cX3_waist 104 = .ok (.lload 4, 2) := by decide +kernel
theorem dX3_waist_106 : decode cX3_waist 106 = .ok (.lcmp, 1) := by decide +kernel
theorem dX3_waist_107 : decode cX3_waist 107 = .ok (.ifCond .lt 6, 3) := by decide +kernel
theorem dX3_waist_110 : decode cX3_waist 110 = .ok (.goto 10, 3) := by decide +kernel
theorem dX3_waist_113 : decode cX3_waist 113 = .ok (.iload 6, 2) := by decide +kernel
theorem dX3_waist_115 : decode cX3_waist 115 = .ok (.istore_n 3, 1) := by decide +kernel
theorem dX3_waist_116 : decode cX3_waist 116 = .ok (.lload 7, 2) := by decide +kernel
theorem dX3_waist_118 : decode cX3_waist 118 = .ok (.lstore 4, 2) := by decide +kernel
theorem dX3_waist_120 : decode cX3_waist 120 = .ok (.iinc 6 1, 3) := by decide +kernel
theorem dX3_waist_123 : decode cX3_waist 123 = .ok (.goto (-88), 3) := by decide +kernel
theorem dX3_waist_126 : decode cX3_waist 126 = .ok (.iload_n 3, 1) := by decide +kernel
theorem dX3_waist_127 : decode cX3_waist 127 = .ok (.ireturn, 1) := by decide +kernel
set_option maxRecDepth 20000 in
theorem ggX3_axis_X3_isPart : GoodIn wsX3_axis wsX3_isPart := goodIn_r _ [10, 2, 11, 12, 13, 9, 14, 15, 16, 17, 18, 19, 55, 56, 57, 58, 59, 60, 61, 62, 63] (by decide +kernel) (by decide +kernel)
set_option maxRecDepth 20000 in
theorem gX3_axis_X3_isPart : GoodIn wsX3_axis (wsV RX3 65 RX3 yX3_isPart wsX3_isPart) := goodIn_app (goodIn_of _ (by decide +kernel)) ggX3_axis_X3_isPart
set_option maxRecDepth 20000 in
theorem ggX3_axis_X3_isWay : GoodIn wsX3_axis wsX3_isWay := goodIn_r _ [23] (by decide +kernel) (by decide +kernel)
set_option maxRecDepth 20000 in
theorem gX3_axis_X3_isWay : GoodIn wsX3_axis (wsV RX3 84 RX3 yX3_isWay wsX3_isWay) := goodIn_app (goodIn_of _ (by decide +kernel)) ggX3_axis_X3_isWay
set_option maxRecDepth 20000 in
theorem ggX3_axis_X3_in : GoodIn wsX3_axis wsX3_in := goodIn_r _ [19] (by decide +kernel) (by decide +kernel)
set_option maxRecDepth 20000 in
theorem gX3_axis_X3_in : GoodIn wsX3_axis (wsV RX3 40 RX3 yX3_in wsX3_in) := goodIn_app (goodIn_of _ (by decide +kernel)) ggX3_axis_X3_in
set_option maxRecDepth 20000 in
theorem ggX3_axis_X3_work : GoodIn wsX3_axis wsX3_work := goodIn_r _ [27, 2, 28, 29, 30, 9, 31, 5, 4, 32, 33, 34, 35, 36, 37, 38, 39, 40, 41, 42, 55, 56, 57, 58, 59, 60, 61, 62, 63] (by decide +kernel) (by decide +kernel)
set_option maxRecDepth 20000 in
theorem gX3_axis_X3_work : GoodIn wsX3_axis (wsV RX3 89 RX3 yX3_work wsX3_work) := goodIn_app (goodIn_of _ (by decide +kernel)) ggX3_axis_X3_work
set_option maxRecDepth 20000 in
theorem ggX3_axis_X3_traceOf : GoodIn wsX3_axis wsX3_traceOf := goodIn_r _ [46, 5, 55, 56, 57, 58, 59, 60, 61, 62, 63] (by decide +kernel) (by decide +kernel)
set_option maxRecDepth 20000 in
theorem gX3_axis_X3_traceOf : GoodIn wsX3_axis (wsV RX3 103 RX3 yX3_traceOf wsX3_traceOf) := goodIn_app (goodIn_of _ (by decide +kernel)) ggX3_axis_X3_traceOf
set_option maxRecDepth 20000 in
theorem ggX3_axis_X3_lowest : GoodIn wsX3_axis wsX3_lowest := goodIn_r _ [50, 51, 52, 53, 9, 54] (by decide +kernel) (by decide +kernel)
set_option maxRecDepth 20000 in
theorem gX3_axis_X3_lowest : GoodIn wsX3_axis (wsV RX3 92 RX3 yX3_lowest wsX3_lowest) := goodIn_app (goodIn_of _ (by decide +kernel)) ggX3_axis_X3_lowest
theorem dX3_axis_0 : decode cX3_axis 0 = .ok (.aload_n 0, 1) := by decide +kernel
theorem dX3_axis_1 : decode cX3_axis 1 = .ok (.iload_n 1, 1) := by decide +kernel
theorem dX3_axis_2 : decode cX3_axis 2 = .ok (.iload_n 3, 1) := by decide +kernel
theorem dX3_axis_3 : decode cX3_axis 3 = .ok (.invokevirtual 65, 3) := by decide +kernel
theorem dX3_axis_6 : decode cX3_axis 6 = .ok (.ifCond .eq 33, 3) := by decide +kernel
theorem dX3_axis_9 : decode cX3_axis 9 = .ok (.aload_n 0, 1) := by decide +kernel
theorem dX3_axis_10 : decode cX3_axis 10 = .ok (.iload_n 2, 1) := by decide +kernel
theorem dX3_axis_11 : decode cX3_axis 11 = .ok (.invokevirtual 84, 3) := by decide +kernel
theorem dX3_axis_14 : decode cX3_axis 14 = .ok (.ifCond .eq 25, 3) := by decide +kernel
theorem dX3_axis_17 : decode cX3_axis 17 = .ok (.aload_n 0, 1) := by decide +kernel
theorem dX3_axis_18 : decode cX3_axis 18 = .ok (.iload 4, 2) := by decide +kernel
theorem dX3_axis_20 : decode cX3_axis 20 = .ok (.iconst 0, 1) := by decide +kernel
theorem dX3_axis_21 : decode cX3_axis 21 = .ok (.iconst 1, 1) := by decide +kernel
theorem dX3_axis_22 : decode cX3_axis 22 = .ok (.invokevirtual 40, 3) := by decide +kernel
theorem dX3_axis_25 : decode cX3_axis 25 = .ok (.ifCond .eq 14, 3) := by decide +kernel
theorem dX3_axis_28 : decode cX3_axis 28 = .ok (.aload_n 0, 1) := by decide +kernel
theorem dX3_axis_29 : decode cX3_axis 29 = .ok (.iload 5, 2) := by decide +kernel
theorem dX3_axis_31 : decode cX3_axis 31 = .ok (.iconst 0, 1) := by decide +kernel
theorem dX3_axis_32 : decode cX3_axis 32 = .ok (.iconst 1, 1) := by decide +kernel
theorem dX3_axis_33 : decode cX3_axis 33 = .ok (.invokevirtual 40, 3) := by decide +kernel
theorem dX3_axis_36 : decode cX3_axis 36 = .ok (.ifCond .ne 7, 3) := by decide +kernel
theorem dX3_axis_39 : decode cX3_axis 39 = .ok (.ldc2_w 87, 3) := by decide +kernel
theorem dX3_axis_42 : decode cX3_axis 42 = .ok (.lreturn, 1) := by decide +kernel
theorem dX3_axis_43 : decode cX3_axis 43 = .ok (.aload_n 0, 1) := by decide +kernel
theorem dX3_axis_44 : decode cX3_axis 44 = .ok (.iload_n 1, 1) := by decide +kernel
theorem dX3_axis_45 : decode cX3_axis 45 = .ok (.iload_n 2, 1) := by decide +kernel
theorem dX3_axis_46 : decode cX3_axis 46 = .ok (.iload_n 3, 1) := by decide +kernel
theorem dX3_axis_47 : decode cX3_axis 47 = .ok (.aload_n 0, 1) := by decide +kernel
theorem dX3_axis_48 : decode cX3_axis 48 = .ok (.getfield 13, 3) := by decide +kernel
theorem dX3_axis_51 : decode cX3_axis 51 = .ok (.iload_n 1, 1) := by decide +kernel
theorem dX3_axis_52 : decode cX3_axis 52 = .ok (.iaload, 1) := by decide +kernel
theorem dX3_axis_53 : decode cX3_axis 53 = .ok (.invokevirtual 89, 3) := by decide +kernel
theorem dX3_axis_56 : decode cX3_axis 56 = .ok (.aload_n 0, 1) := by decide +kernel
theorem dX3_axis_57 : decode cX3_axis 57 = .ok (.invokevirtual 103, 3) := by decide +kernel
theorem dX3_axis_60 : decode cX3_axis 60 = .ok (.ldc2_w 107, 3) := by decide +kernel
theorem dX3_axis_63 : decode cX3_axis 63 = .ok (.aload_n 0, 1) := by decide +kernel
theorem dX3_axis_64 : decode cX3_axis 64 = .ok (.getfield 36, 3) := by decide +kernel
theorem dX3_axis_67 : decode cX3_axis 67 = .ok (.lmul, 1) := by decide +kernel
theorem dX3_axis_68 : decode cX3_axis 68 = .ok (.lcmp, 1) := by decide +kernel
theorem dX3_axis_69 : decode cX3_axis 69 = .ok (.ifCond .ne 7, 3) := by decide +kernel
theorem dX3_axis_72 : decode cX3_axis 72 = .ok (.ldc2_w 87, 3) := by decide +kernel
theorem dX3_axis_75 : decode cX3_axis 75 = .ok (.lreturn, 1) := by decide +kernel
theorem dX3_axis_76 : decode cX3_axis 76 = .ok (.iload 4, 2) := by decide +kernel
theorem dX3_axis_78 : decode cX3_axis 78 = .ok (.ifCond .ne 38, 3) := by decide +kernel
theorem dX3_axis_81 : decode cX3_axis 81 = .ok (.aload_n 0, 1) := by decide +kernel
theorem dX3_axis_82 : decode cX3_axis 82 = .ok (.getfield 32, 3) := by decide +kernel
theorem dX3_axis_85 : decode cX3_axis 85 = .ok (.iconst 1, 1) := by decide +kernel
theorem dX3_axis_86 : decode cX3_axis 86 = .ok (.laload, 1) := by decide +kernel
theorem dX3_axis_87 : decode cX3_axis 87 = .ok (.aload_n 0, 1) := by decide +kernel
theorem dX3_axis_88 : decode cX3_axis 88 = .ok (.getfield 32, 3) := by decide +kernel
theorem dX3_axis_91 : decode cX3_axis 91 = .ok (.iconst 5, 1) := by decide +kernel
theorem dX3_axis_92 : decode cX3_axis 92 = .ok (.laload, 1) := by decide +kernel
theorem dX3_axis_93 : decode cX3_axis 93 = .ok (.lmul, 1) := by decide +kernel
theorem dX3_axis_94 : decode cX3_axis 94 = .ok (.aload_n 0, 1) := by decide +kernel
theorem dX3_axis_95 : decode cX3_axis 95 = .ok (.getfield 32, 3) := by decide +kernel
theorem dX3_axis_98 : decode cX3_axis 98 = .ok (.iconst 4, 1) := by decide +kernel
theorem dX3_axis_99 : decode cX3_axis 99 = .ok (.laload, 1) := by decide +kernel
theorem dX3_axis_100 : decode cX3_axis 100 = .ok (.aload_n 0, 1) := by decide +kernel
theorem dX3_axis_101 : decode cX3_axis 101 = .ok (.getfield 32, 3) := by decide +kernel
theorem dX3_axis_104 : decode cX3_axis 104 = .ok (.iconst 3, 1) := by decide +kernel
theorem dX3_axis_105 : decode cX3_axis 105 = .ok (.laload, 1) := by decide +kernel
theorem dX3_axis_106 : decode cX3_axis 106 = .ok (.aload_n 0, 1) := by decide +kernel
theorem dX3_axis_107 : decode cX3_axis 107 = .ok (.getfield 36, 3) := by decide +kernel
theorem dX3_axis_110 : decode cX3_axis 110 = .ok (.lsub, 1) := by decide +kernel
theorem dX3_axis_111 : decode cX3_axis 111 = .ok (.lmul, 1) := by decide +kernel
theorem dX3_axis_112 : decode cX3_axis 112 = .ok (.lsub, 1) := by decide +kernel
theorem dX3_axis_113 : decode cX3_axis 113 = .ok (.goto 35, 3) := by decide +kernel
theorem dX3_axis_116 : decode cX3_axis 116 = .ok (.aload_n 0, 1) := by decide +kernel
theorem dX3_axis_117 : decode cX3_axis 117 = .ok (.getfield 32, 3) := by decide +kernel
theorem dX3_axis_120 : decode cX3_axis 120 = .ok (.iconst 2, 1) := by decide +kernel
theorem dX3_axis_121 : decode cX3_axis 121 = .ok (.laload, 1) := by decide +kernel
theorem dX3_axis_122 : decode cX3_axis 122 = .ok (.aload_n 0, 1) := by decide +kernel
theorem dX3_axis_123 : decode cX3_axis 123 = .ok (.getfield 32, 3) := by decide +kernel
theorem dX3_axis_126 : decode cX3_axis 126 = .ok (.iconst 4, 1) := by decide +kernel
theorem dX3_axis_127 : decode cX3_axis 127 = .ok (.laload, 1) := by decide +kernel
theorem dX3_axis_128 : decode cX3_axis 128 = .ok (.lmul, 1) := by decide +kernel
theorem dX3_axis_129 : decode cX3_axis 129 = .ok (.aload_n 0, 1) := by decide +kernel
theorem dX3_axis_130 : decode cX3_axis 130 = .ok (.getfield 32, 3) := by decide +kernel
theorem dX3_axis_133 : decode cX3_axis 133 = .ok (.iconst 5, 1) := by decide +kernel
theorem dX3_axis_134 : decode cX3_axis 134 = .ok (.laload, 1) := by decide +kernel
theorem dX3_axis_135 : decode cX3_axis 135 = .ok (.aload_n 0, 1) := by decide +kernel
theorem dX3_axis_136 : decode cX3_axis 136 = .ok (.getfield 32, 3) := by decide +kernel
theorem dX3_axis_139 : decode cX3_axis 139 = .ok (.iconst 0, 1) := by decide +kernel
theorem dX3_axis_140 : decode cX3_axis 140 = .ok (.laload, 1) := by decide +kernel
theorem dX3_axis_141 : decode cX3_axis 141 = .ok (.aload_n 0, 1) := by decide +kernel
theorem dX3_axis_142 : decode cX3_axis 142 = .ok (.getfield 36, 3) := by decide +kernel
theorem dX3_axis_145 : decode cX3_axis 145 = .ok (.lsub, 1) := by decide +kernel
theorem dX3_axis_146 : decode cX3_axis 146 = .ok (.lmul, 1) := by decide +kernel
theorem dX3_axis_147 : decode cX3_axis 147 = .ok (.lsub, 1) := by decide +kernel
theorem dX3_axis_148 : decode cX3_axis 148 = .ok (.lstore 6, 2) := by decide +kernel
theorem dX3_axis_150 : decode cX3_axis 150 = .ok (.aload_n 0, 1) := by decide +kernel
theorem dX3_axis_151 : decode cX3_axis 151 = .ok (.lload 6, 2) := by decide +kernel
theorem dX3_axis_153 : decode cX3_axis 153 = .ok (.aload_n 0, 1) := by decide +kernel
theorem dX3_axis_154 : decode cX3_axis 154 = .ok (.getfield 36, 3) := by decide +kernel
theorem dX3_axis_157 : decode cX3_axis 157 = .ok (.ldc2_w 107, 3) := by decide +kernel
theorem dX3_axis_160 : decode cX3_axis 160 = .ok (.aload_n 0, 1) := by decide +kernel
theorem dX3_axis_161 : decode cX3_axis 161 = .ok (.getfield 36, 3) := by decide +kernel
theorem dX3_axis_164 : decode cX3_axis 164 = .ok (.lmul, 1) := by decide +kernel
theorem dX3_axis_165 : decode cX3_axis 165 = .ok (.aload_n 0, 1) := by decide +kernel
theorem dX3_axis_166 : decode cX3_axis 166 = .ok (.invokevirtual 103, 3) := by decide +kernel
theorem dX3_axis_169 : decode cX3_axis 169 = .ok (.lsub, 1) := by decide +kernel
theorem dX3_axis_170 : decode cX3_axis 170 = .ok (.lmul, 1) := by decide +kernel
theorem dX3_axis_171 : decode cX3_axis 171 = .ok (.iload 5, 2) := by decide +kernel
theorem dX3_axis_173 : decode cX3_axis 173 = .ok (.invokevirtual 92, 3) := by decide +kernel
theorem dX3_axis_176 : decode cX3_axis 176 = .ok (.lreturn, 1) := by decide +kernel
set_option maxRecDepth 20000 in
theorem ggX3_holdsBoth_X3_roundOf : GoodIn wsX3_holdsBoth wsX3_roundOf := goodIn_r _ [5, 6, 7, 8, 9, 10, 11, 12, 13, 4, 14, 15, 16, 17, 18, 19, 20, 21, 22, 23, 24, 25, 26, 27, 28, 29, 30, 31, 32, 33, 34, 35, 36, 37, 38, 39, 40, 41, 42, 43, 44, 45, 46, 47, 48, 49, 50, 51] (by decide +kernel) (by decide +kernel)
set_option maxRecDepth 20000 in
theorem gX3_holdsBoth_X3_roundOf : GoodIn wsX3_holdsBoth (wsV RX3 121 RX3 yX3_roundOf wsX3_roundOf) := goodIn_app (goodIn_of _ (by decide +kernel)) ggX3_holdsBoth_X3_roundOf
theorem dX3_holdsBoth_0 : decode cX3_holdsBoth 0 = .ok (.aload_n 0, 1) := by decide +kernel
theorem dX3_holdsBoth_1 : decode cX3_holdsBoth 1 = .ok (.iload_n 1, 1) := by decide +kernel
theorem dX3_holdsBoth_2 : decode cX3_holdsBoth 2 = .ok (.iconst 0, 1) := by decide +kernel
theorem dX3_holdsBoth_3 : decode cX3_holdsBoth 3 = .ok (.invokevirtual 121, 3) := by decide +kernel
theorem dX3_holdsBoth_6 : decode cX3_holdsBoth 6 = .ok (.ifCond .ne 16, 3) := by decide +kernel
theorem dX3_holdsBoth_9 : decode cX3_holdsBoth 9 = .ok (.aload_n 0, 1) := by decide +kernel
theorem dX3_holdsBoth_10 : decode cX3_holdsBoth 10 = .ok (.iload_n 1, 1) := by decide +kernel
theorem dX3_holdsBoth_11 : decode cX3_holdsBoth 11 = .ok (.iconst 1, 1) := by decide +kernel
theorem dX3_holdsBoth_12 : decode cX3_holdsBoth 12 = .ok (.invokevirtual 121, 3) := by decide +kernel
theorem dX3_holdsBoth_15 : decode cX3_holdsBoth 15 = .ok (.ifCond .ne 7, 3) := by decide +kernel
theorem dX3_holdsBoth_18 : decode cX3_holdsBoth 18 = .ok (.iconst 1, 1) := by decide +kernel
theorem dX3_holdsBoth_19 : decode cX3_holdsBoth 19 = .ok (.goto 4, 3) := by decide +kernel
theorem dX3_holdsBoth_22 : decode cX3_holdsBoth 22 = .ok (.iconst 0, 1) := by decide +kernel
theorem dX3_holdsBoth_23 : decode cX3_holdsBoth 23 = .ok (.ireturn, 1) := by decide +kernel
set_option maxRecDepth 20000 in
theorem ggX3_holdsWith_X3_holdsBoth : GoodIn wsX3_holdsWith wsX3_holdsBoth := goodIn_r _ [6, 7, 8, 9, 5, 10, 11, 12, 13, 14, 15, 16, 17, 18, 19, 20, 21, 22, 23, 24, 25, 26, 27, 28, 1, 29, 30, 31, 32, 33, 34, 35, 36, 37, 38, 39, 40, 41, 42, 43, 44, 45, 46, 47, 48, 49, 50, 51, 52, 53, 54, 55] (by decide +kernel) (by decide +kernel)
set_option maxRecDepth 20000 in
theorem gX3_holdsWith_X3_holdsBoth : GoodIn wsX3_holdsWith (wsV RX3 133 RX3 yX3_holdsBoth wsX3_holdsBoth) := goodIn_app (goodIn_of _ (by decide +kernel)) ggX3_holdsWith_X3_holdsBoth
theorem dX3_holdsWith_0 : decode cX3_holdsWith 0 = .ok (.aload_n 0, 1) := by decide +kernel
theorem dX3_holdsWith_1 : decode cX3_holdsWith 1 = .ok (.getfield 20, 3) := by decide +kernel
theorem dX3_holdsWith_4 : decode cX3_holdsWith 4 = .ok (.bipush 8, 2) := by decide +kernel
theorem dX3_holdsWith_6 : decode cX3_holdsWith 6 = .ok (.iload_n 1, 1) := by decide +kernel
theorem dX3_holdsWith_7 : decode cX3_holdsWith 7 = .ok (.imul, 1) := by decide +kernel
theorem dX3_holdsWith_8 : decode cX3_holdsWith 8 = .ok (.iload_n 2, 1) := by decide +kernel
theorem dX3_holdsWith_9 : decode cX3_holdsWith 9 = .ok (.iadd, 1) := by decide +kernel
theorem dX3_holdsWith_10 : decode cX3_holdsWith 10 = .ok (.iaload, 1) := by decide +kernel
theorem dX3_holdsWith_11 : decode cX3_holdsWith 11 = .ok (.istore 4, 2) := by decide +kernel
theorem dX3_holdsWith_13 : decode cX3_holdsWith 13 = .ok (.aload_n 0, 1) := by decide +kernel
theorem dX3_holdsWith_14 : decode cX3_holdsWith 14 = .ok (.getfield 20, 3) := by decide +kernel
theorem dX3_holdsWith_17 : decode cX3_holdsWith 17 = .ok (.bipush 8, 2) := by decide +kernel
theorem dX3_holdsWith_19 : decode cX3_holdsWith 19 = .ok (.iload_n 1, 1) := by decide +kernel
theorem dX3_holdsWith_20 : decode cX3_holdsWith 20 = .ok (.imul, 1) := by decide +kernel
theorem dX3_holdsWith_21 : decode cX3_holdsWith 21 = .ok (.iload_n 2, 1) := by decide +kernel
theorem dX3_holdsWith_22 : decode cX3_holdsWith 22 = .ok (.iadd, 1) := by decide +kernel
theorem dX3_holdsWith_23 : decode cX3_holdsWith 23 = .ok (.iload_n 3, 1) := by decide +kernel
theorem dX3_holdsWith_24 : decode cX3_holdsWith 24 = .ok (.iastore, 1) := by decide +kernel
theorem dX3_holdsWith_25 : decode cX3_holdsWith 25 = .ok (.aload_n 0, 1) := by decide +kernel
theorem dX3_holdsWith_26 : decode cX3_holdsWith 26 = .ok (.iload_n 1, 1) := by decide +kernel
theorem dX3_holdsWith_27 : decode cX3_holdsWith 27 = .ok (.invokevirtual 133, 3) := by decide +kernel
theorem dX3_holdsWith_30 : decode cX3_holdsWith 30 = .ok (.istore 5, 2) := by decide +kernel
theorem dX3_holdsWith_32 : decode cX3_holdsWith 32 = .ok (.aload_n 0, 1) := by decide +kernel
theorem dX3_holdsWith_33 : decode cX3_holdsWith 33 = .ok (.getfield 20, 3) := by decide +kernel
theorem dX3_holdsWith_36 : decode cX3_holdsWith 36 = .ok (.bipush 8, 2) := by decide +kernel
theorem dX3_holdsWith_38 : decode cX3_holdsWith 38 = .ok (.iload_n 1, 1) := by decide +kernel
theorem dX3_holdsWith_39 : decode cX3_holdsWith 39 = .ok (.imul, 1) := by decide +kernel
theorem dX3_holdsWith_40 : decode cX3_holdsWith 40 = .ok (.iload_n 2, 1) := by decide +kernel
theorem dX3_holdsWith_41 : decode cX3_holdsWith 41 = .ok (.iadd, 1) := by decide +kernel
theorem dX3_holdsWith_42 : decode cX3_holdsWith 42 = .ok (.iload 4, 2) := by decide +kernel
theorem dX3_holdsWith_44 : decode cX3_holdsWith 44 = .ok (.iastore, 1) := by decide +kernel
theorem dX3_holdsWith_45 : decode cX3_holdsWith 45 = .ok (.iload 5, 2) := by decide +kernel
theorem dX3_holdsWith_47 : decode cX3_holdsWith 47 = .ok (.ireturn, 1) := by decide +kernel
set_option maxRecDepth 20000 in
theorem ggX3_span_X3_isPart : GoodIn wsX3_span wsX3_isPart := goodIn_r _ [6, 7, 8, 9, 10, 5, 11, 12, 13, 14, 15, 16, 64, 65, 66, 67, 68, 69, 70, 71, 72] (by decide +kernel) (by decide +kernel)
set_option maxRecDepth 20000 in
theorem gX3_span_X3_isPart : GoodIn wsX3_span (wsV RX3 65 RX3 yX3_isPart wsX3_isPart) := goodIn_app (goodIn_of _ (by decide +kernel)) ggX3_span_X3_isPart
set_option maxRecDepth 20000 in
theorem ggX3_span_X3_holdsWith : GoodIn wsX3_span wsX3_holdsWith := goodIn_r _ [20, 21, 22, 23, 24, 5, 25, 26, 27, 28, 29, 7, 30, 31, 32, 33, 34, 35, 36, 37, 38, 39, 40, 41, 42, 43, 44, 45, 46, 1, 47, 48, 49, 50, 51, 52, 53, 54, 55, 56, 57, 58, 59, 60, 61, 62, 63, 64, 65, 66, 67, 68, 69, 70, 71, 72] (by decide +kernel) (by decide +kernel)
set_option maxRecDepth 20000 in
theorem gX3_span_X3_holdsWith : GoodIn wsX3_span (wsV RX3 136 RX3 yX3_holdsWith wsX3_holdsWith) := goodIn_app (goodIn_of _ (by decide +kernel)) ggX3_span_X3_holdsWith
theorem dX3_span_0 : decode cX3_span 0 = .ok (.aload_n 0, 1) := by decide +kernel
theorem dX3_span_1 : decode cX3_span 1 = .ok (.iload_n 1, 1) := by decide +kernel
theorem dX3_span_2 : decode cX3_span 2 = .ok (.iload_n 2, 1) := by decide +kernel
theorem dX3_span_3 : decode cX3_span 3 = .ok (.invokevirtual 65, 3) := by decide +kernel
theorem dX3_span_6 : decode cX3_span 6 = .ok (.ifCond .eq 7, 3) := by decide +kernel
theorem dX3_span_9 : decode cX3_span 9 = .ok (.iload_n 3, 1) := by decide +kernel
theorem dX3_span_10 : decode cX3_span 10 = .ok (.ifCond .ge 5, 3) := by decide +kernel
theorem dX3_span_13 : decode cX3_span 13 = .ok (.iconst (-1), 1) := by decide +kernel
theorem dX3_span_14 : decode cX3_span 14 = .ok (.ireturn, 1) := by decide +kernel
theorem dX3_span_15 : decode cX3_span 15 = .ok (.aload_n 0, 1) := by decide +kernel
theorem dX3_span_16 : decode cX3_span 16 = .ok (.getfield 17, 3) := by decide +kernel
theorem dX3_span_19 : decode cX3_span 19 = .ok (.bipush 8, 2) := by decide +kernel
theorem dX3_span_21 : decode cX3_span 21 = .ok (.iload_n 1, 1) := by decide +kernel
theorem dX3_span_22 : decode cX3_span 22 = .ok (.imul, 1) := by decide +kernel
theorem dX3_span_23 : decode cX3_span 23 = .ok (.iload_n 2, 1) := by decide +kernel
theorem dX3_span_24 : decode cX3_span 24 = .ok (.iadd, 1) := by decide +kernel
theorem dX3_span_25 : decode cX3_span 25 = .ok (.iaload, 1) := by decide +kernel
theorem dX3_span_26 : decode cX3_span 26 = .ok (.ifCond .eq 6, 3) := by decide +kernel
theorem dX3_span_29 : decode cX3_span 29 = .ok (.bipush (-3), 2) := by decide +kernel
theorem dX3_span_31 : decode cX3_span 31 = .ok (.ireturn, 1) := by decide +kernel
theorem dX3_span_32 : decode cX3_span 32 = .ok (.iload_n 3, 1) := by decide +kernel
theorem dX3_span_33 : decode cX3_span 33 = .ok (.istore 4, 2) := by decide +kernel
theorem dX3_span_35 : decode cX3_span 35 = .ok (.iconst 0, 1) := by decide +kernel
theorem dX3_span_36 : decode cX3_span 36 = .ok (.istore 5, 2) := by decide +kernel
theorem dX3_span_38 : decode cX3_span 38 = .ok (.iload 5, 2) := by decide +kernel
theorem dX3_span_40 : decode cX3_span 40 = .ok (.bipush 20, 2) := by decide +kernel
theorem dX3_span_42 : decode cX3_span 42 = .ok (.if_icmp .gt 38, 3) := by decide +kernel
theorem dX3_span_45 : decode cX3_span 45 = .ok (.iload_n 3, 1) := by decide +kernel
theorem dX3_span_46 : decode cX3_span 46 = .ok (.ifCond .lt 34, 3) := by decide +kernel
theorem dX3_span_49 : decode cX3_span 49 = .ok (.aload_n 0, 1) := by decide +kernel
theorem dX3_span_50 : decode cX3_span 50 = .ok (.iload_n 1, 1) := by decide +kernel
theorem dX3_span_51 : decode cX3_span 51 = .ok (.iload_n 2, 1) := by decide +kernel
theorem dX3_span_52 : decode cX3_span 52 = .ok (.iload 5, 2) := by decide +kernel
theorem dX3_span_54 : decode cX3_span 54 = .ok (.invokevirtual 136, 3) := by decide +kernel
theorem dX3_span_57 : decode cX3_span 57 = .ok (.ifCond .ne 6, 3) := by decide +kernel
theorem dX3_span_60 : decode cX3_span 60 = .ok (.goto 14, 3) := by decide +kernel
theorem dX3_span_63 : decode cX3_span 63 = .ok (.iload 4, 2) := by decide +kernel
theorem dX3_span_65 : decode cX3_span 65 = .ok (.ifCond .ne 6, 3) := by decide +kernel
theorem dX3_span_68 : decode cX3_span 68 = .ok (.iload 5, 2) := by decide +kernel
theorem dX3_span_70 : decode cX3_span 70 = .ok (.ireturn, 1) := by decide +kernel
theorem dX3_span_71 : decode cX3_span 71 = .ok (.iinc 4 (-1), 3) := by decide +kernel
theorem dX3_span_74 : decode cX3_span 74 = .ok (.iinc 5 1, 3) := by decide +kernel
theorem dX3_span_77 : decode cX3_span 77 = .ok (.goto (-39), 3) := by decide +kernel
theorem dX3_span_80 : decode cX3_span 80 = .ok (.iconst (-1), 1) := by decide +kernel
theorem dX3_span_81 : decode cX3_span 81 = .ok (.ireturn, 1) := by decide +kernel
set_option maxRecDepth 20000 in
theorem ggX3_own_X3_isBent : GoodIn wsX3_own wsX3_isBent := goodIn_r _ [7, 8, 9, 10, 6, 11] (by decide +kernel) (by decide +kernel)
set_option maxRecDepth 20000 in
theorem gX3_own_X3_isBent : GoodIn wsX3_own (wsV RX3 48 RX3 yX3_isBent wsX3_isBent) := goodIn_app (goodIn_of _ (by decide +kernel)) ggX3_own_X3_isBent
theorem dX3_own_0 : decode cX3_own 0 = .ok (.aload_n 0, 1) := by decide +kernel
theorem dX3_own_1 : decode cX3_own 1 = .ok (.iload_n 1, 1) := by decide +kernel
theorem dX3_own_2 : decode cX3_own 2 = .ok (.invokevirtual 48, 3) := by decide +kernel
theorem dX3_own_5 : decode cX3_own 5 = .ok (.ifCond .ne 6, 3) := by decide +kernel
theorem dX3_own_8 : decode cX3_own 8 = .ok (.bipush (-2), 2) := by decide +kernel
theorem dX3_own_10 : decode cX3_own 10 = .ok (.ireturn, 1) := by decide +kernel
theorem dX3_own_11 : decode cX3_own 11 = .ok (.aload_n 0, 1) := by decide +kernel
theorem dX3_own_12 : decode cX3_own 12 = .ok (.getfield 26, 3) := by decide +kernel
theorem dX3_own_15 : decode cX3_own 15 = .ok (.bipush 12, 2) := by decide +kernel
theorem dX3_own_17 : decode cX3_own 17 = .ok (.if_icmp .ne 6, 3) := by decide +kernel
theorem dX3_own_20 : decode cX3_own 20 = .ok (.bipush (-4), 2) := by decide +kernel
theorem dX3_own_22 : decode cX3_own 22 = .ok (.ireturn, 1) := by decide +kernel
theorem dX3_own_23 : decode cX3_own 23 = .ok (.aload_n 0, 1) := by decide +kernel
theorem dX3_own_24 : decode cX3_own 24 = .ok (.getfield 29, 3) := by decide +kernel
theorem dX3_own_27 : decode cX3_own 27 = .ok (.aload_n 0, 1) := by decide +kernel
theorem dX3_own_28 : decode cX3_own 28 = .ok (.getfield 26, 3) := by decide +kernel
theorem dX3_own_31 : decode cX3_own 31 = .ok (.iload_n 1, 1) := by decide +kernel
theorem dX3_own_32 : decode cX3_own 32 = .ok (.iastore, 1) := by decide +kernel
theorem dX3_own_33 : decode cX3_own 33 = .ok (.aload_n 0, 1) := by decide +kernel
theorem dX3_own_34 : decode cX3_own 34 = .ok (.dup, 1) := by decide +kernel
theorem dX3_own_35 : decode cX3_own 35 = .ok (.getfield 26, 3) := by decide +kernel
theorem dX3_own_38 : decode cX3_own 38 = .ok (.iconst 1, 1) := by decide +kernel
theorem dX3_own_39 : decode cX3_own 39 = .ok (.iadd, 1) := by decide +kernel
theorem dX3_own_40 : decode cX3_own 40 = .ok (.putfield 26, 3) := by decide +kernel
theorem dX3_own_43 : decode cX3_own 43 = .ok (.aload_n 0, 1) := by decide +kernel
theorem dX3_own_44 : decode cX3_own 44 = .ok (.getfield 26, 3) := by decide +kernel
theorem dX3_own_47 : decode cX3_own 47 = .ok (.ireturn, 1) := by decide +kernel
set_option maxRecDepth 20000 in
theorem ggX3_fit_X3_isPart : GoodIn wsX3_fit wsX3_isPart := goodIn_r _ [8, 9, 10, 11, 12, 7, 13, 14, 15, 16, 17, 18, 66, 67, 68, 69, 70, 71, 72, 73, 74] (by decide +kernel) (by decide +kernel)
set_option maxRecDepth 20000 in
theorem gX3_fit_X3_isPart : GoodIn wsX3_fit (wsV RX3 65 RX3 yX3_isPart wsX3_isPart) := goodIn_app (goodIn_of _ (by decide +kernel)) ggX3_fit_X3_isPart
set_option maxRecDepth 20000 in
theorem ggX3_fit_X3_holdsWith : GoodIn wsX3_fit wsX3_holdsWith := goodIn_r _ [22, 23, 24, 25, 26, 7, 27, 28, 29, 30, 31, 9, 32, 33, 34, 35, 36, 37, 38, 39, 40, 41, 42, 43, 44, 45, 46, 47, 48, 1, 49, 50, 51, 52, 53, 54, 55, 56, 57, 58, 59, 60, 61, 62, 63, 64, 65, 66, 67, 68, 69, 70, 71, 72, 73, 74] (by decide +kernel) (by decide +kernel)
set_option maxRecDepth 20000 in
theorem gX3_fit_X3_holdsWith : GoodIn wsX3_fit (wsV RX3 136 RX3 yX3_holdsWith wsX3_holdsWith) := goodIn_app (goodIn_of _ (by decide +kernel)) ggX3_fit_X3_holdsWith
theorem dX3_fit_0 : decode cX3_fit 0 = .ok (.aload_n 0, 1) := by decide +kernel
theorem dX3_fit_1 : decode cX3_fit 1 = .ok (.iload_n 1, 1) := by decide +kernel
theorem dX3_fit_2 : decode cX3_fit 2 = .ok (.iload_n 2, 1) := by decide +kernel
theorem dX3_fit_3 : decode cX3_fit 3 = .ok (.invokevirtual 65, 3) := by decide +kernel
theorem dX3_fit_6 : decode cX3_fit 6 = .ok (.ifCond .ne 5, 3) := by decide +kernel
theorem dX3_fit_9 : decode cX3_fit 9 = .ok (.iconst (-1), 1) := by decide +kernel
theorem dX3_fit_10 : decode cX3_fit 10 = .ok (.ireturn, 1) := by decide +kernel
theorem dX3_fit_11 : decode cX3_fit 11 = .ok (.aload_n 0, 1) := by decide +kernel
theorem dX3_fit_12 : decode cX3_fit 12 = .ok (.getfield 17, 3) := by decide +kernel
theorem dX3_fit_15 : decode cX3_fit 15 = .ok (.bipush 8, 2) := by decide +kernel
theorem dX3_fit_17 : decode cX3_fit 17 = .ok (.iload_n 1, 1) := by decide +kernel
theorem dX3_fit_18 : decode cX3_fit 18 = .ok (.imul, 1) := by decide +kernel
theorem dX3_fit_19 : decode cX3_fit 19 = .ok (.iload_n 2, 1) := by decide +kernel
theorem dX3_fit_20 : decode cX3_fit 20 = .ok (.iadd, 1) := by decide +kernel
theorem dX3_fit_21 : decode cX3_fit 21 = .ok (.iaload, 1) := by decide +kernel
theorem dX3_fit_22 : decode cX3_fit 22 = .ok (.iconst 1, 1) := by decide +kernel
theorem dX3_fit_23 : decode cX3_fit 23 = .ok (.if_icmp .eq 6, 3) := by decide +kernel
theorem dX3_fit_26 : decode cX3_fit 26 = .ok (.bipush (-3), 2) := by decide +kernel
theorem dX3_fit_28 : decode cX3_fit 28 = .ok (.ireturn, 1) := by decide +kernel
theorem dX3_fit_29 : decode cX3_fit 29 = .ok (.iconst 0, 1) := by decide +kernel
theorem dX3_fit_30 : decode cX3_fit 30 = .ok (.istore_n 3, 1) := by decide +kernel
theorem dX3_fit_31 : decode cX3_fit 31 = .ok (.iload_n 3, 1) := by decide +kernel
theorem dX3_fit_32 : decode cX3_fit 32 = .ok (.aload_n 0, 1) := by decide +kernel
theorem dX3_fit_33 : decode cX3_fit 33 = .ok (.getfield 26, 3) := by decide +kernel
theorem dX3_fit_36 : decode cX3_fit 36 = .ok (.if_icmp .ge 26, 3) := by decide +kernel
theorem dX3_fit_39 : decode cX3_fit 39 = .ok (.aload_n 0, 1) := by decide +kernel
theorem dX3_fit_40 : decode cX3_fit 40 = .ok (.iload_n 1, 1) := by decide +kernel
theorem dX3_fit_41 : decode cX3_fit 41 = .ok (.iload_n 2, 1) := by decide +kernel
theorem dX3_fit_42 : decode cX3_fit 42 = .ok (.aload_n 0, 1) := by decide +kernel
theorem dX3_fit_43 : decode cX3_fit 43 = .ok (.getfield 29, 3) := by decide +kernel
theorem dX3_fit_46 : decode cX3_fit 46 = .ok (.iload_n 3, 1) := by decide +kernel
theorem dX3_fit_47 : decode cX3_fit 47 = .ok (.iaload, 1) := by decide +kernel
theorem dX3_fit_48 : decode cX3_fit 48 = .ok (.invokevirtual 136, 3) := by decide +kernel
theorem dX3_fit_51 : decode cX3_fit 51 = .ok (.ifCond .eq 5, 3) := by decide +kernel
theorem dX3_fit_54 : decode cX3_fit 54 = .ok (.iload_n 3, 1) := by decide +kernel
theorem dX3_fit_55 : decode cX3_fit 55 = .ok (.ireturn, 1) := by decide +kernel
theorem dX3_fit_56 : decode cX3_fit 56 = .ok (.iinc 3 1, 3) := by decide +kernel
theorem dX3_fit_59 : decode cX3_fit 59 = .ok (.goto (-28), 3) := by decide +kernel
theorem dX3_fit_62 : decode cX3_fit 62 = .ok (.iconst (-1), 1) := by decide +kernel
theorem dX3_fit_63 : decode cX3_fit 63 = .ok (.ireturn, 1) := by decide +kernel
set_option maxRecDepth 20000 in
theorem ggX3_swap_X3_isPart : GoodIn wsX3_swap wsX3_isPart := goodIn_r _ [9, 10, 11, 12, 13, 8, 14, 15, 16, 17, 18, 19, 20, 21, 22, 23, 24, 25, 26, 27, 28] (by decide +kernel) (by decide +kernel)
set_option maxRecDepth 20000 in
theorem gX3_swap_X3_isPart : GoodIn wsX3_swap (wsV RX3 65 RX3 yX3_isPart wsX3_isPart) := goodIn_app (goodIn_of _ (by decide +kernel)) ggX3_swap_X3_isPart
set_option maxRecDepth 20000 in
theorem ggX3_swap_X3_in : GoodIn wsX3_swap wsX3_in := goodIn_r _ [19] (by decide +kernel) (by decide +kernel)
set_option maxRecDepth 20000 in
theorem gX3_swap_X3_in : GoodIn wsX3_swap (wsV RX3 40 RX3 yX3_in wsX3_in) := goodIn_app (goodIn_of _ (by decide +kernel)) ggX3_swap_X3_in
theorem dX3_swap_0 : decode cX3_swap 0 = .ok (.aload_n 0, 1) := by decide +kernel
theorem dX3_swap_1 : decode cX3_swap 1 = .ok (.iload_n 1, 1) := by decide +kernel
theorem dX3_swap_2 : decode cX3_swap 2 = .ok (.iload_n 2, 1) := by decide +kernel
theorem dX3_swap_3 : decode cX3_swap 3 = .ok (.invokevirtual 65, 3) := by decide +kernel
theorem dX3_swap_6 : decode cX3_swap 6 = .ok (.ifCond .eq 18, 3) := by decide +kernel
theorem dX3_swap_9 : decode cX3_swap 9 = .ok (.aload_n 0, 1) := by decide +kernel
theorem dX3_swap_10 : decode cX3_swap 10 = .ok (.iload_n 3, 1) := by decide +kernel
theorem dX3_swap_11 : decode cX3_swap 11 = .ok (.iconst 0, 1) := by decide +kernel
theorem dX3_swap_12 : decode cX3_swap 12 = .ok (.aload_n 0, 1) := by decide +kernel
theorem dX3_swap_13 : decode cX3_swap 13 = .ok (.getfield 26, 3) := by decide +kernel
theorem dX3_swap_16 : decode cX3_swap 16 = .ok (.iconst 1, 1) := by decide +kernel
theorem dX3_swap_17 : decode cX3_swap 17 = .ok (.isub, 1) := by decide +kernel
theorem dX3_swap_18 : decode cX3_swap 18 = .ok (.invokevirtual 40, 3) := by decide +kernel
theorem dX3_swap_21 : decode cX3_swap 21 = .ok (.ifCond .ne 5, 3) := by decide +kernel
theorem dX3_swap_24 : decode cX3_swap 24 = .ok (.iconst (-1), 1) := by decide +kernel
theorem dX3_swap_25 : decode cX3_swap 25 = .ok (.ireturn, 1) := by decide +kernel
theorem dX3_swap_26 : decode cX3_swap 26 = .ok (.aload_n 0, 1) := by decide +kernel
theorem dX3_swap_27 : decode cX3_swap 27 = .ok (.getfield 17, 3) := by decide +kernel
theorem dX3_swap_30 : decode cX3_swap 30 = .ok (.bipush 8, 2) := by decide +kernel
theorem dX3_swap_32 : decode cX3_swap 32 = .ok (.iload_n 1, 1) := by decide +kernel
theorem dX3_swap_33 : decode cX3_swap 33 = .ok (.imul, 1) := by decide +kernel
theorem dX3_swap_34 : decode cX3_swap 34 = .ok (.iload_n 2, 1) := by decide +kernel
theorem dX3_swap_35 : decode cX3_swap 35 = .ok (.iadd, 1) := by decide +kernel
theorem dX3_swap_36 : decode cX3_swap 36 = .ok (.iaload, 1) := by decide +kernel
theorem dX3_swap_37 : decode cX3_swap 37 = .ok (.iconst 1, 1) := by decide +kernel
theorem dX3_swap_38 : decode cX3_swap 38 = .ok (.if_icmp .eq 6, 3) := by decide +kernel
theorem dX3_swap_41 : decode cX3_swap 41 = .ok (.bipush (-3), 2) := by decide +kernel
theorem dX3_swap_43 : decode cX3_swap 43 = .ok (.ireturn, 1) := by decide +kernel
theorem dX3_swap_44 : decode cX3_swap 44 = .ok (.aload_n 0, 1) := by decide +kernel
theorem dX3_swap_45 : decode cX3_swap 45 = .ok (.getfield 20, 3) := by decide +kernel
theorem dX3_swap_48 : decode cX3_swap 48 = .ok (.bipush 8, 2) := by decide +kernel
theorem dX3_swap_50 : decode cX3_swap 50 = .ok (.iload_n 1, 1) := by decide +kernel
theorem dX3_swap_51 : decode cX3_swap 51 = .ok (.imul, 1) := by decide +kernel
theorem dX3_swap_52 : decode cX3_swap 52 = .ok (.iload_n 2, 1) := by decide +kernel
theorem dX3_swap_53 : decode cX3_swap 53 = .ok (.iadd, 1) := by decide +kernel
theorem dX3_swap_54 : decode cX3_swap 54 = .ok (.iaload, 1) := by decide +kernel
theorem dX3_swap_55 : decode cX3_swap 55 = .ok (.istore 4, 2) := by decide +kernel
theorem dX3_swap_57 : decode cX3_swap 57 = .ok (.aload_n 0, 1) := by decide +kernel
theorem dX3_swap_58 : decode cX3_swap 58 = .ok (.getfield 20, 3) := by decide +kernel
theorem dX3_swap_61 : decode cX3_swap 61 = .ok (.bipush 8, 2) := by decide +kernel
theorem dX3_swap_63 : decode cX3_swap 63 = .ok (.iload_n 1, 1) := by decide +kernel
theorem dX3_swap_64 : decode cX3_swap 64 = .ok (.imul, 1) := by decide +kernel
theorem dX3_swap_65 : decode cX3_swap 65 = .ok (.iload_n 2, 1) := by decide +kernel
theorem dX3_swap_66 : decode cX3_swap 66 = .ok (.iadd, 1) := by decide +kernel
theorem dX3_swap_67 : decode cX3_swap 67 = .ok (.aload_n 0, 1) := by decide +kernel
theorem dX3_swap_68 : decode cX3_swap 68 = .ok (.getfield 29, 3) := by decide +kernel
theorem dX3_swap_71 : decode cX3_swap 71 = .ok (.iload_n 3, 1) := by decide +kernel
theorem dX3_swap_72 : decode cX3_swap 72 = .ok (.iaload, 1) := by decide +kernel
theorem dX3_swap_73 : decode cX3_swap 73 = .ok (.iastore, 1) := by decide +kernel
theorem dX3_swap_74 : decode cX3_swap 74 = .ok (.aload_n 0, 1) := by decide +kernel
theorem dX3_swap_75 : decode cX3_swap 75 = .ok (.getfield 29, 3) := by decide +kernel
theorem dX3_swap_78 : decode cX3_swap 78 = .ok (.iload_n 3, 1) := by decide +kernel
theorem dX3_swap_79 : decode cX3_swap 79 = .ok (.iload 4, 2) := by decide +kernel
theorem dX3_swap_81 : decode cX3_swap 81 = .ok (.iastore, 1) := by decide +kernel
theorem dX3_swap_82 : decode cX3_swap 82 = .ok (.iload 4, 2) := by decide +kernel
theorem dX3_swap_84 : decode cX3_swap 84 = .ok (.ireturn, 1) := by decide +kernel
set_option maxRecDepth 20000 in
theorem ggX3_count_X3_holdsBoth : GoodIn wsX3_count wsX3_holdsBoth := goodIn_r _ [8, 9, 10, 11, 7, 12, 2, 13, 14, 15, 16, 17, 18, 19, 20, 21, 22, 23, 24, 25, 26, 27, 28, 29, 30, 31, 32, 33, 34, 35, 36, 37, 38, 39, 40, 41, 42, 43, 44, 45, 46, 47, 48, 49, 50, 51, 52, 53, 54, 55, 56, 57] (by decide +kernel) (by decide +kernel)
set_option maxRecDepth 20000 in
theorem gX3_count_X3_holdsBoth : GoodIn wsX3_count (wsV RX3 133 RX3 yX3_holdsBoth wsX3_holdsBoth) := goodIn_app (goodIn_of _ (by decide +kernel)) ggX3_count_X3_holdsBoth
theorem dX3_count_0 : decode cX3_count 0 = .ok (.iconst 0, 1) := by decide +kernel
theorem dX3_count_1 : decode cX3_count 1 = .ok (.istore_n 2, 1) := by decide +kernel
theorem dX3_count_2 : decode cX3_count 2 = .ok (.iload_n 1, 1) := by decide +kernel
theorem dX3_count_3 : decode cX3_count 3 = .ok (.tableswitch 100 0 3 #[29, 34, 61, 66], 29) := by decide +kernel
theorem dX3_count_32 : decode cX3_count 32 = .ok (.aload_n 0, 1) := by decide +kernel
theorem dX3_count_33 : decode cX3_count 33 = .ok (.getfield 7, 3) := by decide +kernel
theorem dX3_count_36 : decode cX3_count 36 = .ok (.ireturn, 1) := by decide +kernel
theorem dX3_count_37 : decode cX3_count 37 = .ok (.iconst 0, 1) := by decide +kernel
theorem dX3_count_38 : decode cX3_count 38 = .ok (.istore_n 3, 1) := by decide +kernel
theorem dX3_count_39 : decode cX3_count 39 = .ok (.iload_n 3, 1) := by decide +kernel
theorem dX3_count_40 : decode cX3_count 40 = .ok (.aload_n 0, 1) := by decide +kernel
theorem dX3_count_41 : decode cX3_count 41 = .ok (.getfield 7, 3) := by decide +kernel
theorem dX3_count_44 : decode cX3_count 44 = .ok (.if_icmp .ge 18, 3) := by decide +kernel
theorem dX3_count_47 : decode cX3_count 47 = .ok (.iload_n 2, 1) := by decide +kernel
theorem dX3_count_48 : decode cX3_count 48 = .ok (.aload_n 0, 1) := by decide +kernel
theorem dX3_count_49 : decode cX3_count 49 = .ok (.getfield 13, 3) := by decide +kernel
theorem dX3_count_52 : decode cX3_count 52 = .ok (.iload_n 3, 1) := by decide +kernel
theorem dX3_count_53 : decode cX3_count 53 = .ok (.iaload, 1) := by decide +kernel
theorem dX3_count_54 : decode cX3_count 54 = .ok (.iadd, 1) := by decide +kernel
theorem dX3_count_55 : decode cX3_count 55 = .ok (.istore_n 2, 1) := by decide +kernel
theorem dX3_count_56 : decode cX3_count 56 = .ok (.iinc 3 1, 3) := by decide +kernel
theorem dX3_count_59 : decode cX3_count 59 = .ok (.goto (-20), 3) := by decide +kernel
theorem dX3_count_62 : decode cX3_count 62 = .ok (.iload_n 2, 1) := by decide +kernel
theorem dX3_count_63 : decode cX3_count 63 = .ok (.ireturn, 1) := by decide +kernel
theorem dX3_count_64 : decode cX3_count 64 = .ok (.aload_n 0, 1) := by decide +kernel
theorem dX3_count_65 : decode cX3_count 65 = .ok (.getfield 26, 3) := by decide +kernel
theorem dX3_count_68 : decode cX3_count 68 = .ok (.ireturn, 1) := by decide +kernel
theorem dX3_count_69 : decode cX3_count 69 = .ok (.iconst 0, 1) := by decide +kernel
theorem dX3_count_70 : decode cX3_count 70 = .ok (.istore_n 3, 1) := by decide +kernel
theorem dX3_count_71 : decode cX3_count 71 = .ok (.iload_n 3, 1) := by decide +kernel
theorem dX3_count_72 : decode cX3_count 72 = .ok (.aload_n 0, 1) := by decide +kernel
theorem dX3_count_73 : decode cX3_count 73 = .ok (.getfield 7, 3) := by decide +kernel
theorem dX3_count_76 : decode cX3_count 76 = .ok (.if_icmp .ge 25, 3) := by decide +kernel
theorem dX3_count_79 : decode cX3_count 79 = .ok (.iload_n 2, 1) := by decide +kernel
theorem dX3_count_80 : decode cX3_count 80 = .ok (.aload_n 0, 1) := by decide +kernel
theorem dX3_count_81 : decode cX3_count 81 = .ok (.iload_n 3, 1) := by decide +kernel
theorem dX3_count_82 : decode cX3_count 82 = .ok (.invokevirtual 133, 3) := by decide +kernel
theorem dX3_count_85 : decode cX3_count 85 = .ok (.ifCond .eq 7, 3) := by decide +kernel
theorem dX3_count_88 : decode cX3_count 88 = .ok (.iconst 1, 1) := by decide +kernel
theorem dX3_count_89 : decode cX3_count 89 = .ok (.goto 4, 3) := by decide +kernel
theorem dX3_count_92 : decode cX3_count 92 = .ok (.iconst 0, 1) := by decide +kernel
theorem dX3_count_93 : decode cX3_count 93 = .ok (.iadd, 1) := by decide +kernel
theorem dX3_count_94 : decode cX3_count 94 = .ok (.istore_n 2, 1) := by decide +kernel
theorem dX3_count_95 : decode cX3_count 95 = .ok (.iinc 3 1, 3) := by decide +kernel
theorem dX3_count_98 : decode cX3_count 98 = .ok (.goto (-27), 3) := by decide +kernel
theorem dX3_count_101 : decode cX3_count 101 = .ok (.iload_n 2, 1) := by decide +kernel
theorem dX3_count_102 : decode cX3_count 102 = .ok (.ireturn, 1) := by decide +kernel
theorem dX3_count_103 : decode cX3_count 103 = .ok (.iconst (-1), 1) := by decide +kernel
theorem dX3_count_104 : decode cX3_count 104 = .ok (.ireturn, 1) := by decide +kernel
set_option maxRecDepth 20000 in
theorem ggX3_drawer_X3_in : GoodIn wsX3_drawer wsX3_in := goodIn_r _ [7] (by decide +kernel) (by decide +kernel)
set_option maxRecDepth 20000 in
theorem gX3_drawer_X3_in : GoodIn wsX3_drawer (wsV RX3 40 RX3 yX3_in wsX3_in) := goodIn_app (goodIn_of _ (by decide +kernel)) ggX3_drawer_X3_in
theorem dX3_drawer_0 : decode cX3_drawer 0 = .ok (.aload_n 0, 1) := by decide +kernel
theorem dX3_drawer_1 : decode cX3_drawer 1 = .ok (.iload_n 1, 1) := by decide +kernel
theorem dX3_drawer_2 : decode cX3_drawer 2 = .ok (.iconst 0, 1) := by decide +kernel
theorem dX3_drawer_3 : decode cX3_drawer 3 = .ok (.aload_n 0, 1) := by decide +kernel
theorem dX3_drawer_4 : decode cX3_drawer 4 = .ok (.getfield 26, 3) := by decide +kernel
theorem dX3_drawer_7 : decode cX3_drawer 7 = .ok (.iconst 1, 1) := by decide +kernel
theorem dX3_drawer_8 : decode cX3_drawer 8 = .ok (.isub, 1) := by decide +kernel
theorem dX3_drawer_9 : decode cX3_drawer 9 = .ok (.invokevirtual 40, 3) := by decide +kernel
theorem dX3_drawer_12 : decode cX3_drawer 12 = .ok (.ifCond .eq 12, 3) := by decide +kernel
theorem dX3_drawer_15 : decode cX3_drawer 15 = .ok (.aload_n 0, 1) := by decide +kernel
theorem dX3_drawer_16 : decode cX3_drawer 16 = .ok (.getfield 29, 3) := by decide +kernel
theorem dX3_drawer_19 : decode cX3_drawer 19 = .ok (.iload_n 1, 1) := by decide +kernel
theorem dX3_drawer_20 : decode cX3_drawer 20 = .ok (.iaload, 1) := by decide +kernel
theorem dX3_drawer_21 : decode cX3_drawer 21 = .ok (.goto 4, 3) := by decide +kernel
theorem dX3_drawer_24 : decode cX3_drawer 24 = .ok (.iconst 0, 1) := by decide +kernel
theorem dX3_drawer_25 : decode cX3_drawer 25 = .ok (.ireturn, 1) := by decide +kernel
theorem dJ9_abs_067f4_0 : decode cJ9_abs_067f4 0 = .ok (.lload_n 0, 1) := by decide +kernel
theorem dJ9_abs_067f4_1 : decode cJ9_abs_067f4 1 = .ok (.lconst 0, 1) := by decide +kernel
theorem dJ9_abs_067f4_2 : decode cJ9_abs_067f4 2 = .ok (.lcmp, 1) := by decide +kernel
theorem dJ9_abs_067f4_3 : decode cJ9_abs_067f4 3 = .ok (.ifCond .ge 8, 3) := by decide +kernel
theorem dJ9_abs_067f4_6 : decode cJ9_abs_067f4 6 = .ok (.lload_n 0, 1) := by decide +kernel
theorem dJ9_abs_067f4_7 : decode cJ9_abs_067f4 7 = .ok (.lneg, 1) := by decide +kernel
theorem dJ9_abs_067f4_8 : decode cJ9_abs_067f4 8 = .ok (.goto 4, 3) := by decide +kernel
theorem dJ9_abs_067f4_11 : decode cJ9_abs_067f4 11 = .ok (.lload_n 0, 1) := by decide +kernel
theorem dJ9_abs_067f4_12 : decode cJ9_abs_067f4 12 = .ok (.lreturn, 1) := by decide +kernel
theorem dJ9_min_f86c9_0 : decode cJ9_min_f86c9 0 = .ok (.lload_n 0, 1) := by decide +kernel
theorem dJ9_min_f86c9_1 : decode cJ9_min_f86c9 1 = .ok (.lload_n 2, 1) := by decide +kernel
theorem dJ9_min_f86c9_2 : decode cJ9_min_f86c9 2 = .ok (.lcmp, 1) := by decide +kernel
theorem dJ9_min_f86c9_3 : decode cJ9_min_f86c9 3 = .ok (.ifCond .gt 7, 3) := by decide +kernel
theorem dJ9_min_f86c9_6 : decode cJ9_min_f86c9 6 = .ok (.lload_n 0, 1) := by decide +kernel
theorem dJ9_min_f86c9_7 : decode cJ9_min_f86c9 7 = .ok (.goto 4, 3) := by decide +kernel
theorem dJ9_min_f86c9_10 : decode cJ9_min_f86c9 10 = .ok (.lload_n 2, 1) := by decide +kernel
theorem dJ9_min_f86c9_11 : decode cJ9_min_f86c9 11 = .ok (.lreturn, 1) := by decide +kernel

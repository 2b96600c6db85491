theorem dX6_init_0 : decode cX6_init 0 = .ok (.aload_n 0, 1) := by decide +kernel
theorem dX6_init_1 : decode cX6_init 1 = .ok (.invokespecial 1, 3) := by decide +kernel
theorem dX6_init_4 : decode cX6_init 4 = .ok (.aload_n 0, 1) := by decide +kernel
theorem dX6_init_5 : decode cX6_init 5 = .ok (.bipush 6, 2) := by decide +kernel
theorem dX6_init_7 : decode cX6_init 7 = .ok (.newarray .int, 2) := by decide +kernel
theorem dX6_init_9 : decode cX6_init 9 = .ok (.putfield 7, 3) := by decide +kernel
theorem dX6_init_12 : decode cX6_init 12 = .ok (.aload_n 0, 1) := by decide +kernel
theorem dX6_init_13 : decode cX6_init 13 = .ok (.sipush 384, 3) := by decide +kernel
theorem dX6_init_16 : decode cX6_init 16 = .ok (.newarray .int, 2) := by decide +kernel
theorem dX6_init_18 : decode cX6_init 18 = .ok (.putfield 13, 3) := by decide +kernel
theorem dX6_init_21 : decode cX6_init 21 = .ok (.aload_n 0, 1) := by decide +kernel
theorem dX6_init_22 : decode cX6_init 22 = .ok (.bipush 20, 2) := by decide +kernel
theorem dX6_init_24 : decode cX6_init 24 = .ok (.newarray .int, 2) := by decide +kernel
theorem dX6_init_26 : decode cX6_init 26 = .ok (.putfield 16, 3) := by decide +kernel
theorem dX6_init_29 : decode cX6_init 29 = .ok (.aload_n 0, 1) := by decide +kernel
theorem dX6_init_30 : decode cX6_init 30 = .ok (.bipush 6, 2) := by decide +kernel
theorem dX6_init_32 : decode cX6_init 32 = .ok (.newarray .boolean, 2) := by decide +kernel
theorem dX6_init_34 : decode cX6_init 34 = .ok (.putfield 19, 3) := by decide +kernel
theorem dX6_init_37 : decode cX6_init 37 = .ok (.aload_n 0, 1) := by decide +kernel
theorem dX6_init_38 : decode cX6_init 38 = .ok (.sipush 160, 3) := by decide +kernel
theorem dX6_init_41 : decode cX6_init 41 = .ok (.newarray .long, 2) := by decide +kernel
theorem dX6_init_43 : decode cX6_init 43 = .ok (.putfield 23, 3) := by decide +kernel
theorem dX6_init_46 : decode cX6_init 46 = .ok (.aload_n 0, 1) := by decide +kernel
theorem dX6_init_47 : decode cX6_init 47 = .ok (.sipush 160, 3) := by decide +kernel
theorem dX6_init_50 : decode cX6_init 50 = .ok (.newarray .long, 2) := by decide +kernel
theorem dX6_init_52 : decode cX6_init 52 = .ok (.putfield 27, 3) := by decide +kernel
theorem dX6_init_55 : decode cX6_init 55 = .ok (.aload_n 0, 1) := by decide +kernel
theorem dX6_init_56 : decode cX6_init 56 = .ok (.bipush 49, 2) := by decide +kernel
theorem dX6_init_58 : decode cX6_init 58 = .ok (.newarray .long, 2) := by decide +kernel
theorem dX6_init_60 : decode cX6_init 60 = .ok (.putfield 30, 3) := by decide +kernel
theorem dX6_init_63 : decode cX6_init 63 = .ok (.aload_n 0, 1) := by decide +kernel
theorem dX6_init_64 : decode cX6_init 64 = .ok (.bipush 7, 2) := by decide +kernel
theorem dX6_init_66 : decode cX6_init 66 = .ok (.newarray .long, 2) := by decide +kernel
theorem dX6_init_68 : decode cX6_init 68 = .ok (.putfield 33, 3) := by decide +kernel
theorem dX6_init_71 : decode cX6_init 71 = .ok (.aload_n 0, 1) := by decide +kernel
theorem dX6_init_72 : decode cX6_init 72 = .ok (.bipush 8, 2) := by decide +kernel
theorem dX6_init_74 : decode cX6_init 74 = .ok (.newarray .int, 2) := by decide +kernel
theorem dX6_init_76 : decode cX6_init 76 = .ok (.putfield 36, 3) := by decide +kernel
theorem dX6_init_79 : decode cX6_init 79 = .ok (.aload_n 0, 1) := by decide +kernel
theorem dX6_init_80 : decode cX6_init 80 = .ok (.bipush 8, 2) := by decide +kernel
theorem dX6_init_82 : decode cX6_init 82 = .ok (.newarray .long, 2) := by decide +kernel
theorem dX6_init_84 : decode cX6_init 84 = .ok (.putfield 39, 3) := by decide +kernel
theorem dX6_init_87 : decode cX6_init 87 = .ok (.aload_n 0, 1) := by decide +kernel
theorem dX6_init_88 : decode cX6_init 88 = .ok (.bipush 8, 2) := by decide +kernel
theorem dX6_init_90 : decode cX6_init 90 = .ok (.newarray .long, 2) := by decide +kernel
theorem dX6_init_92 : decode cX6_init 92 = .ok (.putfield 42, 3) := by decide +kernel
theorem dX6_init_95 : decode cX6_init 95 = .ok (.aload_n 0, 1) := by decide +kernel
theorem dX6_init_96 : decode cX6_init 96 = .ok (.bipush 8, 2) := by decide +kernel
theorem dX6_init_98 : decode cX6_init 98 = .ok (.newarray .long, 2) := by decide +kernel
theorem dX6_init_100 : decode cX6_init 100 = .ok (.putfield 45, 3) := by decide +kernel
theorem dX6_init_103 : decode cX6_init 103 = .ok (.aload_n 0, 1) := by decide +kernel
theorem dX6_init_104 : decode cX6_init 104 = .ok (.bipush 8, 2) := by decide +kernel
theorem dX6_init_106 : decode cX6_init 106 = .ok (.newarray .long, 2) := by decide +kernel
theorem dX6_init_108 : decode cX6_init 108 = .ok (.putfield 48, 3) := by decide +kernel
theorem dX6_init_111 : decode cX6_init 111 = .ok (.aload_n 0, 1) := by decide +kernel
theorem dX6_init_112 : decode cX6_init 112 = .ok (.bipush 8, 2) := by decide +kernel
theorem dX6_init_114 : decode cX6_init 114 = .ok (.newarray .int, 2) := by decide +kernel
theorem dX6_init_116 : decode cX6_init 116 = .ok (.putfield 51, 3) := by decide +kernel
theorem dX6_init_119 : decode cX6_init 119 = .ok (.aload_n 0, 1) := by decide +kernel
theorem dX6_init_120 : decode cX6_init 120 = .ok (.bipush 8, 2) := by decide +kernel
theorem dX6_init_122 : decode cX6_init 122 = .ok (.newarray .int, 2) := by decide +kernel
theorem dX6_init_124 : decode cX6_init 124 = .ok (.putfield 54, 3) := by decide +kernel
theorem dX6_init_127 : decode cX6_init 127 = .ok (.aload_n 0, 1) := by decide +kernel
theorem dX6_init_128 : decode cX6_init 128 = .ok (.bipush 8, 2) := by decide +kernel
theorem dX6_init_130 : decode cX6_init 130 = .ok (.newarray .int, 2) := by decide +kernel
theorem dX6_init_132 : decode cX6_init 132 = .ok (.putfield 57, 3) := by decide +kernel
theorem dX6_init_135 : decode cX6_init 135 = .ok (.return_, 1) := by decide +kernel
theorem dX6_thrown_0 : decode cX6_thrown 0 = .ok (.aload_n 0, 1) := by decide +kernel
theorem dX6_thrown_1 : decode cX6_thrown 1 = .ok (.getfield 60, 3) := by decide +kernel
theorem dX6_thrown_4 : decode cX6_thrown 4 = .ok (.ireturn, 1) := by decide +kernel
theorem dX6_right_0 : decode cX6_right 0 = .ok (.aload_n 0, 1) := by decide +kernel
theorem dX6_right_1 : decode cX6_right 1 = .ok (.getfield 60, 3) := by decide +kernel
theorem dX6_right_4 : decode cX6_right 4 = .ok (.ifCond .ne 12, 3) := by decide +kernel
theorem dX6_right_7 : decode cX6_right 7 = .ok (.iload_n 1, 1) := by decide +kernel
theorem dX6_right_8 : decode cX6_right 8 = .ok (.ifCond .ne 8, 3) := by decide +kernel
theorem dX6_right_11 : decode cX6_right 11 = .ok (.aload_n 0, 1) := by decide +kernel
theorem dX6_right_12 : decode cX6_right 12 = .ok (.iload_n 2, 1) := by decide +kernel
theorem dX6_right_13 : decode cX6_right 13 = .ok (.putfield 60, 3) := by decide +kernel
theorem dX6_right_16 : decode cX6_right 16 = .ok (.aload_n 0, 1) := by decide +kernel
theorem dX6_right_17 : decode cX6_right 17 = .ok (.getfield 60, 3) := by decide +kernel
theorem dX6_right_20 : decode cX6_right 20 = .ok (.ifCond .ne 7, 3) := by decide +kernel
theorem dX6_right_23 : decode cX6_right 23 = .ok (.iconst 1, 1) := by decide +kernel
theorem dX6_right_24 : decode cX6_right 24 = .ok (.goto 4, 3) := by decide +kernel
theorem dX6_right_27 : decode cX6_right 27 = .ok (.iconst 0, 1) := by decide +kernel
theorem dX6_right_28 : decode cX6_right 28 = .ok (.ireturn, 1) := by decide +kernel
set_option maxRecDepth 20000 in
theorem ggX6_isYard_X6_right : GoodIn wsX6_isYard wsX6_right := goodIn_r _ [7, 1, 8, 9, 10, 11, 12, 13, 14, 15, 16, 17, 18, 19, 20, 21, 22, 23, 24, 25, 26] (by decide +kernel) (by decide +kernel)
set_option maxRecDepth 20000 in
theorem gX6_isYard_X6_right : GoodIn wsX6_isYard (wsV RX6 67 RX6 yX6_right wsX6_right) := goodIn_app (goodIn_of _ (by decide +kernel)) ggX6_isYard_X6_right
theorem dX6_isYard_0 : decode cX6_isYard 0 = .ok (.aload_n 0, 1) := by decide +kernel
theorem dX6_isYard_1 : decode cX6_isYard 1 = .ok (.iconst 0, 1) := by decide +kernel
theorem dX6_isYard_2 : decode cX6_isYard 2 = .ok (.putfield 60, 3) := by decide +kernel
theorem dX6_isYard_5 : decode cX6_isYard 5 = .ok (.aload_n 0, 1) := by decide +kernel
theorem dX6_isYard_6 : decode cX6_isYard 6 = .ok (.iload_n 1, 1) := by decide +kernel
theorem dX6_isYard_7 : decode cX6_isYard 7 = .ok (.ifCond .lt 15, 3) := by decide +kernel
theorem dX6_isYard_10 : decode cX6_isYard 10 = .ok (.iload_n 1, 1) := by decide +kernel
theorem dX6_isYard_11 : decode cX6_isYard 11 = .ok (.aload_n 0, 1) := by decide +kernel
theorem dX6_isYard_12 : decode cX6_isYard 12 = .ok (.getfield 64, 3) := by decide +kernel
theorem dX6_isYard_15 : decode cX6_isYard 15 = .ok (.if_icmp .ge 7, 3) := by decide +kernel
theorem dX6_isYard_18 : decode cX6_isYard 18 = .ok (.iconst 1, 1) := by decide +kernel
theorem dX6_isYard_19 : decode cX6_isYard 19 = .ok (.goto 4, 3) := by decide +kernel
theorem dX6_isYard_22 : decode cX6_isYard 22 = .ok (.iconst 0, 1) := by decide +kernel
theorem dX6_isYard_23 : decode cX6_isYard 23 = .ok (.iconst 1, 1) := by decide +kernel
theorem dX6_isYard_24 : decode cX6_isYard 24 = .ok (.invokevirtual 67, 3) := by decide +kernel
theorem dX6_isYard_27 : decode cX6_isYard 27 = .ok (.ireturn, 1) := by decide +kernel
set_option maxRecDepth 20000 in
theorem ggX6_isPlace_X6_right : GoodIn wsX6_isPlace wsX6_right := goodIn_r _ [6, 7, 8, 9, 10, 11, 12, 13, 14, 15, 16, 17, 18, 19, 20, 21, 22, 23, 24, 25, 26] (by decide +kernel) (by decide +kernel)
set_option maxRecDepth 20000 in
theorem gX6_isPlace_X6_right : GoodIn wsX6_isPlace (wsV RX6 67 RX6 yX6_right wsX6_right) := goodIn_app (goodIn_of _ (by decide +kernel)) ggX6_isPlace_X6_right
theorem dX6_isPlace_0 : decode cX6_isPlace 0 = .ok (.aload_n 0, 1) := by decide +kernel
theorem dX6_isPlace_1 : decode cX6_isPlace 1 = .ok (.iload_n 2, 1) := by decide +kernel
theorem dX6_isPlace_2 : decode cX6_isPlace 2 = .ok (.ifCond .lt 17, 3) := by decide +kernel
theorem dX6_isPlace_5 : decode cX6_isPlace 5 = .ok (.iload_n 2, 1) := by decide +kernel
theorem dX6_isPlace_6 : decode cX6_isPlace 6 = .ok (.aload_n 0, 1) := by decide +kernel
theorem dX6_isPlace_7 : decode cX6_isPlace 7 = .ok (.getfield 7, 3) := by decide +kernel
theorem dX6_isPlace_10 : decode cX6_isPlace 10 = .ok (.iload_n 1, 1) := by decide +kernel
theorem dX6_isPlace_11 : decode cX6_isPlace 11 = .ok (.iaload, 1) := by decide +kernel
theorem dX6_isPlace_12 : decode cX6_isPlace 12 = .ok (.if_icmp .ge 7, 3) := by decide +kernel
theorem dX6_isPlace_15 : decode cX6_isPlace 15 = .ok (.iconst 1, 1) := by decide +kernel
theorem dX6_isPlace_16 : decode cX6_isPlace 16 = .ok (.goto 4, 3) := by decide +kernel
theorem dX6_isPlace_19 : decode cX6_isPlace 19 = .ok (.iconst 0, 1) := by decide +kernel
theorem dX6_isPlace_20 : decode cX6_isPlace 20 = .ok (.iconst 1, 1) := by decide +kernel
theorem dX6_isPlace_21 : decode cX6_isPlace 21 = .ok (.invokevirtual 67, 3) := by decide +kernel
theorem dX6_isPlace_24 : decode cX6_isPlace 24 = .ok (.ireturn, 1) := by decide +kernel
theorem dX6_yard_0 : decode cX6_yard 0 = .ok (.aload_n 0, 1) := by decide +kernel
theorem dX6_yard_1 : decode cX6_yard 1 = .ok (.iconst 0, 1) := by decide +kernel
theorem dX6_yard_2 : decode cX6_yard 2 = .ok (.putfield 60, 3) := by decide +kernel
theorem dX6_yard_5 : decode cX6_yard 5 = .ok (.aload_n 0, 1) := by decide +kernel
theorem dX6_yard_6 : decode cX6_yard 6 = .ok (.getfield 64, 3) := by decide +kernel
theorem dX6_yard_9 : decode cX6_yard 9 = .ok (.bipush 6, 2) := by decide +kernel
theorem dX6_yard_11 : decode cX6_yard 11 = .ok (.if_icmp .eq 14, 3) := by decide +kernel
theorem dX6_yard_14 : decode cX6_yard 14 = .ok (.iload_n 1, 1) := by decide +kernel
theorem dX6_yard_15 : decode cX6_yard 15 = .ok (.iconst 2, 1) := by decide +kernel
theorem dX6_yard_16 : decode cX6_yard 16 = .ok (.if_icmp .lt 9, 3) := by decide +kernel
theorem dX6_yard_19 : decode cX6_yard 19 = .ok (.iload_n 1, 1) := by decide +kernel
theorem dX6_yard_20 : decode cX6_yard 20 = .ok (.bipush 8, 2) := by decide +kernel
theorem dX6_yard_22 : decode cX6_yard 22 = .ok (.if_icmp .le 5, 3) := by decide +kernel
theorem dX6_yard_25 : decode cX6_yard 25 = .ok (.iconst (-1), 1) := by decide +kernel
theorem dX6_yard_26 : decode cX6_yard 26 = .ok (.ireturn, 1) := by decide +kernel
theorem dX6_yard_27 : decode cX6_yard 27 = .ok (.aload_n 0, 1) := by decide +kernel
theorem dX6_yard_28 : decode cX6_yard 28 = .ok (.getfield 7, 3) := by decide +kernel
theorem dX6_yard_31 : decode cX6_yard 31 = .ok (.aload_n 0, 1) := by decide +kernel
theorem dX6_yard_32 : decode cX6_yard 32 = .ok (.getfield 64, 3) := by decide +kernel
theorem dX6_yard_35 : decode cX6_yard 35 = .ok (.iload_n 1, 1) := by decide +kernel
theorem dX6_yard_36 : decode cX6_yard 36 = .ok (.iastore, 1) := by decide +kernel
theorem dX6_yard_37 : decode cX6_yard 37 = .ok (.aload_n 0, 1) := by decide +kernel
theorem dX6_yard_38 : decode cX6_yard 38 = .ok (.dup, 1) := by decide +kernel
theorem dX6_yard_39 : decode cX6_yard 39 = .ok (.getfield 64, 3) := by decide +kernel
theorem dX6_yard_42 : decode cX6_yard 42 = .ok (.iconst 1, 1) := by decide +kernel
theorem dX6_yard_43 : decode cX6_yard 43 = .ok (.iadd, 1) := by decide +kernel
theorem dX6_yard_44 : decode cX6_yard 44 = .ok (.putfield 64, 3) := by decide +kernel
theorem dX6_yard_47 : decode cX6_yard 47 = .ok (.aload_n 0, 1) := by decide +kernel
theorem dX6_yard_48 : decode cX6_yard 48 = .ok (.getfield 64, 3) := by decide +kernel
theorem dX6_yard_51 : decode cX6_yard 51 = .ok (.iconst 1, 1) := by decide +kernel
theorem dX6_yard_52 : decode cX6_yard 52 = .ok (.isub, 1) := by decide +kernel
theorem dX6_yard_53 : decode cX6_yard 53 = .ok (.ireturn, 1) := by decide +kernel
theorem dX6_between_0 : decode cX6_between 0 = .ok (.aload_n 0, 1) := by decide +kernel
theorem dX6_between_1 : decode cX6_between 1 = .ok (.getfield 13, 3) := by decide +kernel
theorem dX6_between_4 : decode cX6_between 4 = .ok (.bipush 64, 2) := by decide +kernel
theorem dX6_between_6 : decode cX6_between 6 = .ok (.iload_n 1, 1) := by decide +kernel
theorem dX6_between_7 : decode cX6_between 7 = .ok (.imul, 1) := by decide +kernel
theorem dX6_between_8 : decode cX6_between 8 = .ok (.bipush 8, 2) := by decide +kernel
theorem dX6_between_10 : decode cX6_between 10 = .ok (.iload_n 2, 1) := by decide +kernel
theorem dX6_between_11 : decode cX6_between 11 = .ok (.imul, 1) := by decide +kernel
theorem dX6_between_12 : decode cX6_between 12 = .ok (.iadd, 1) := by decide +kernel
theorem dX6_between_13 : decode cX6_between 13 = .ok (.iload_n 3, 1) := by decide +kernel
theorem dX6_between_14 : decode cX6_between 14 = .ok (.iadd, 1) := by decide +kernel
theorem dX6_between_15 : decode cX6_between 15 = .ok (.iaload, 1) := by decide +kernel
theorem dX6_between_16 : decode cX6_between 16 = .ok (.ireturn, 1) := by decide +kernel
set_option maxRecDepth 20000 in
theorem ggX6_path_X6_isYard : GoodIn wsX6_path wsX6_isYard := goodIn_r _ [7, 8, 9, 10, 11, 12, 6, 13, 23, 24, 25, 26, 27, 28, 29, 30, 31, 32, 33, 34, 35, 36, 37, 38, 39, 40, 41] (by decide +kernel) (by decide +kernel)
set_option maxRecDepth 20000 in
theorem gX6_path_X6_isYard : GoodIn wsX6_path (wsV RX6 71 RX6 yX6_isYard wsX6_isYard) := goodIn_app (goodIn_of _ (by decide +kernel)) ggX6_path_X6_isYard
set_option maxRecDepth 20000 in
theorem ggX6_path_X6_isPlace : GoodIn wsX6_path wsX6_isPlace := goodIn_r _ [17, 18, 10, 11, 12, 6, 13, 8, 23, 24, 25, 26, 27, 28, 29, 30, 31, 32, 33, 34, 35, 36, 37, 38, 39, 40, 41] (by decide +kernel) (by decide +kernel)
set_option maxRecDepth 20000 in
theorem gX6_path_X6_isPlace : GoodIn wsX6_path (wsV RX6 75 RX6 yX6_isPlace wsX6_isPlace) := goodIn_app (goodIn_of _ (by decide +kernel)) ggX6_path_X6_isPlace
set_option maxRecDepth 20000 in
theorem ggX6_path_X6_between : GoodIn wsX6_path wsX6_between := goodIn_r _ [22, 2, 23, 24, 25, 26, 27, 28, 29, 30, 31, 32, 33, 34, 35, 36, 37, 38, 39, 40, 41] (by decide +kernel) (by decide +kernel)
set_option maxRecDepth 20000 in
theorem gX6_path_X6_between : GoodIn wsX6_path (wsV RX6 79 RX6 yX6_between wsX6_between) := goodIn_app (goodIn_of _ (by decide +kernel)) ggX6_path_X6_between
theorem dX6_path_0 : decode cX6_path 0 = .ok (.aload_n 0, 1) := by decide +kernel
theorem dX6_path_1 : decode cX6_path 1 = .ok (.iload_n 1, 1) := by decide +kernel
theorem dX6_path_2 : decode cX6_path 2 = .ok (.invokevirtual 71, 3) := by decide +kernel
theorem dX6_path_5 : decode cX6_path 5 = .ok (.ifCond .eq 21, 3) := by decide +kernel
theorem dX6_path_8 : decode cX6_path 8 = .ok (.aload_n 0, 1) := by decide +kernel
theorem dX6_path_9 : decode cX6_path 9 = .ok (.iload_n 1, 1) := by decide +kernel
theorem dX6_path_10 : decode cX6_path 10 = .ok (.iload_n 2, 1) := by decide +kernel
theorem dX6_path_11 : decode cX6_path 11 = .ok (.invokevirtual 75, 3) := by decide +kernel
theorem dX6_path_14 : decode cX6_path 14 = .ok (.ifCond .eq 12, 3) := by decide +kernel
theorem dX6_path_17 : decode cX6_path 17 = .ok (.aload_n 0, 1) := by decide +kernel
theorem dX6_path_18 : decode cX6_path 18 = .ok (.iload_n 1, 1) := by decide +kernel
theorem dX6_path_19 : decode cX6_path 19 = .ok (.iload_n 3, 1) := by decide +kernel
theorem dX6_path_20 : decode cX6_path 20 = .ok (.invokevirtual 75, 3) := by decide +kernel
theorem dX6_path_23 : decode cX6_path 23 = .ok (.ifCond .ne 5, 3) := by decide +kernel
theorem dX6_path_26 : decode cX6_path 26 = .ok (.iconst 0, 1) := by decide +kernel
theorem dX6_path_27 : decode cX6_path 27 = .ok (.ireturn, 1) := by decide +kernel
theorem dX6_path_28 : decode cX6_path 28 = .ok (.iload 4, 2) := by decide +kernel
theorem dX6_path_30 : decode cX6_path 30 = .ok (.ifCond .lt 23, 3) := by decide +kernel
theorem dX6_path_33 : decode cX6_path 33 = .ok (.iload 4, 2) := by decide +kernel
theorem dX6_path_35 : decode cX6_path 35 = .ok (.iconst 3, 1) := by decide +kernel
theorem dX6_path_36 : decode cX6_path 36 = .ok (.if_icmp .gt 17, 3) := by decide +kernel
theorem dX6_path_39 : decode cX6_path 39 = .ok (.iload_n 2, 1) := by decide +kernel
theorem dX6_path_40 : decode cX6_path 40 = .ok (.iload_n 3, 1) := by decide +kernel
theorem dX6_path_41 : decode cX6_path 41 = .ok (.if_icmp .eq 12, 3) := by decide +kernel
theorem dX6_path_44 : decode cX6_path 44 = .ok (.aload_n 0, 1) := by decide +kernel
theorem dX6_path_45 : decode cX6_path 45 = .ok (.getfield 19, 3) := by decide +kernel
theorem dX6_path_48 : decode cX6_path 48 = .ok (.iload_n 1, 1) := by decide +kernel
theorem dX6_path_49 : decode cX6_path 49 = .ok (.baload, 1) := by decide +kernel
theorem dX6_path_50 : decode cX6_path 50 = .ok (.ifCond .eq 5, 3) := by decide +kernel
theorem dX6_path_53 : decode cX6_path 53 = .ok (.iconst (-1), 1) := by decide +kernel
theorem dX6_path_54 : decode cX6_path 54 = .ok (.ireturn, 1) := by decide +kernel
theorem dX6_path_55 : decode cX6_path 55 = .ok (.aload_n 0, 1) := by decide +kernel
theorem dX6_path_56 : decode cX6_path 56 = .ok (.iload_n 1, 1) := by decide +kernel
theorem dX6_path_57 : decode cX6_path 57 = .ok (.iload_n 2, 1) := by decide +kernel
theorem dX6_path_58 : decode cX6_path 58 = .ok (.iload_n 3, 1) := by decide +kernel
theorem dX6_path_59 : decode cX6_path 59 = .ok (.invokevirtual 79, 3) := by decide +kernel
theorem dX6_path_62 : decode cX6_path 62 = .ok (.istore 5, 2) := by decide +kernel
theorem dX6_path_64 : decode cX6_path 64 = .ok (.aload_n 0, 1) := by decide +kernel
theorem dX6_path_65 : decode cX6_path 65 = .ok (.getfield 13, 3) := by decide +kernel
theorem dX6_path_68 : decode cX6_path 68 = .ok (.bipush 64, 2) := by decide +kernel
theorem dX6_path_70 : decode cX6_path 70 = .ok (.iload_n 1, 1) := by decide +kernel
theorem dX6_path_71 : decode cX6_path 71 = .ok (.imul, 1) := by decide +kernel
theorem dX6_path_72 : decode cX6_path 72 = .ok (.bipush 8, 2) := by decide +kernel
theorem dX6_path_74 : decode cX6_path 74 = .ok (.iload_n 2, 1) := by decide +kernel
theorem dX6_path_75 : decode cX6_path 75 = .ok (.imul, 1) := by decide +kernel
theorem dX6_path_76 : decode cX6_path 76 = .ok (.iadd, 1) := by decide +kernel
theorem dX6_path_77 : decode cX6_path 77 = .ok (.iload_n 3, 1) := by decide +kernel
theorem dX6_path_78 : decode cX6_path 78 = .ok (.iadd, 1) := by decide +kernel
theorem dX6_path_79 : decode cX6_path 79 = .ok (.iload 4, 2) := by decide +kernel
theorem dX6_path_81 : decode cX6_path 81 = .ok (.iastore, 1) := by decide +kernel
theorem dX6_path_82 : decode cX6_path 82 = .ok (.aload_n 0, 1) := by decide +kernel
theorem dX6_path_83 : decode cX6_path 83 = .ok (.getfield 13, 3) := by decide +kernel
theorem dX6_path_86 : decode cX6_path 86 = .ok (.bipush 64, 2) := by decide +kernel
theorem dX6_path_88 : decode cX6_path 88 = .ok (.iload_n 1, 1) := by decide +kernel
theorem dX6_path_89 : decode cX6_path 89 = .ok (.imul, 1) := by decide +kernel
theorem dX6_path_90 : decode cX6_path 90 = .ok (.bipush 8, 2) := by decide +kernel
theorem dX6_path_92 : decode cX6_path 92 = .ok (.iload_n 3, 1) := by decide +kernel
theorem dX6_path_93 : decode cX6_path 93 = .ok (.imul, 1) := by decide +kernel
theorem dX6_path_94 : decode cX6_path 94 = .ok (.iadd, 1) := by decide +kernel
theorem dX6_path_95 : decode cX6_path 95 = .ok (.iload_n 2, 1) := by decide +kernel
theorem dX6_path_96 : decode cX6_path 96 = .ok (.iadd, 1) := by decide +kernel
theorem dX6_path_97 : decode cX6_path 97 = .ok (.iload 4, 2) := by decide +kernel
theorem dX6_path_99 : decode cX6_path 99 = .ok (.iastore, 1) := by decide +kernel
theorem dX6_path_100 : decode cX6_path 100 = .ok (.iload 5, 2) := by decide +kernel
theorem dX6_path_102 : decode cX6_path 102 = .ok (.ireturn, 1) := by decide +kernel
set_option maxRecDepth 20000 in
theorem ggX6_degreeOf_X6_between : GoodIn wsX6_degreeOf wsX6_between := goodIn_r _ [6, 7, 8, 9, 10, 11, 12, 13, 14, 15, 16, 17, 18, 19, 20, 21, 22, 23, 24, 25, 26] (by decide +kernel) (by decide +kernel)
set_option maxRecDepth 20000 in
theorem gX6_degreeOf_X6_between : GoodIn wsX6_degreeOf (wsV RX6 79 RX6 yX6_between wsX6_between) := goodIn_app (goodIn_of _ (by decide +kernel)) ggX6_degreeOf_X6_between
theorem dX6_degreeOf_0 : decode cX6_degreeOf 0 = .ok (.iconst 0, 1) := by decide +kernel
theorem dX6_degreeOf_1 : decode cX6_degreeOf 1 = .ok (.istore_n 3, 1) := by decide +kernel
theorem dX6_degreeOf_2 : decode cX6_degreeOf 2 = .ok (.iconst 0, 1) := by decide +kernel
theorem dX6_degreeOf_3 : decode cX6_degreeOf 3 = .ok (.istore 4, 2) := by decide +kernel
theorem dX6_degreeOf_5 : decode cX6_degreeOf 5 = .ok (.iload 4, 2) := by decide +kernel
theorem dX6_degreeOf_7 : decode cX6_degreeOf 7 = .ok (.aload_n 0, 1) := by decide +kernel
theorem dX6_degreeOf_8 : decode cX6_degreeOf 8 = .ok (.getfield 7, 3) := by decide +kernel
theorem dX6_degreeOf_11 : decode cX6_degreeOf 11 = .ok (.iload_n 1, 1) := by decide +kernel
theorem dX6_degreeOf_12 : decode cX6_degreeOf 12 = .ok (.iaload, 1) := by decide +kernel
theorem dX6_degreeOf_13 : decode cX6_degreeOf 13 = .ok (.if_icmp .ge 20, 3) := by decide +kernel
theorem dX6_degreeOf_16 : decode cX6_degreeOf 16 = .ok (.iload_n 3, 1) := by decide +kernel
theorem dX6_degreeOf_17 : decode cX6_degreeOf 17 = .ok (.aload_n 0, 1) := by decide +kernel
theorem dX6_degreeOf_18 : decode cX6_degreeOf 18 = .ok (.iload_n 1, 1) := by decide +kernel
theorem dX6_degreeOf_19 : decode cX6_degreeOf 19 = .ok (.iload_n 2, 1) := by decide +kernel
theorem dX6_degreeOf_20 : decode cX6_degreeOf 20 = .ok (.iload 4, 2) := by decide +kernel
theorem dX6_degreeOf_22 : decode cX6_degreeOf 22 = .ok (.invokevirtual 79, 3) := by decide +kernel
theorem dX6_degreeOf_25 : decode cX6_degreeOf 25 = .ok (.iadd, 1) := by decide +kernel
theorem dX6_degreeOf_26 : decode cX6_degreeOf 26 = .ok (.istore_n 3, 1) := by decide +kernel
theorem dX6_degreeOf_27 : decode cX6_degreeOf 27 = .ok (.iinc 4 1, 3) := by decide +kernel
theorem dX6_degreeOf_30 : decode cX6_degreeOf 30 = .ok (.goto (-25), 3) := by decide +kernel
theorem dX6_degreeOf_33 : decode cX6_degreeOf 33 = .ok (.iload_n 3, 1) := by decide +kernel
theorem dX6_degreeOf_34 : decode cX6_degreeOf 34 = .ok (.ireturn, 1) := by decide +kernel
set_option maxRecDepth 20000 in
theorem ggX6_degree_X6_isYard : GoodIn wsX6_degree wsX6_isYard := goodIn_r _ [5, 6, 7, 8, 9, 10, 4, 11, 26, 27, 28, 29, 30, 31, 32, 33, 34, 35, 36, 37, 38, 39, 40, 41, 42, 43, 44] (by decide +kernel) (by decide +kernel)
set_option maxRecDepth 20000 in
theorem gX6_degree_X6_isYard : GoodIn wsX6_degree (wsV RX6 71 RX6 yX6_isYard wsX6_isYard) := goodIn_app (goodIn_of _ (by decide +kernel)) ggX6_degree_X6_isYard
set_option maxRecDepth 20000 in
theorem ggX6_degree_X6_isPlace : GoodIn wsX6_degree wsX6_isPlace := goodIn_r _ [15, 16, 8, 9, 10, 4, 11, 6, 26, 27, 28, 29, 30, 31, 32, 33, 34, 35, 36, 37, 38, 39, 40, 41, 42, 43, 44] (by decide +kernel) (by decide +kernel)
set_option maxRecDepth 20000 in
theorem gX6_degree_X6_isPlace : GoodIn wsX6_degree (wsV RX6 75 RX6 yX6_isPlace wsX6_isPlace) := goodIn_app (goodIn_of _ (by decide +kernel)) ggX6_degree_X6_isPlace
set_option maxRecDepth 20000 in
theorem ggX6_degree_X6_degreeOf : GoodIn wsX6_degree wsX6_degreeOf := goodIn_r _ [20, 16, 21, 22, 23, 4, 24, 25, 26, 27, 28, 29, 30, 31, 32, 33, 34, 35, 36, 37, 38, 39, 40, 41, 42, 43, 44] (by decide +kernel) (by decide +kernel)
set_option maxRecDepth 20000 in
theorem gX6_degree_X6_degreeOf : GoodIn wsX6_degree (wsV RX6 83 RX6 yX6_degreeOf wsX6_degreeOf) := goodIn_app (goodIn_of _ (by decide +kernel)) ggX6_degree_X6_degreeOf
theorem dX6_degree_0 : decode cX6_degree 0 = .ok (.aload_n 0, 1) := by decide +kernel
theorem dX6_degree_1 : decode cX6_degree 1 = .ok (.iload_n 1, 1) := by decide +kernel
theorem dX6_degree_2 : decode cX6_degree 2 = .ok (.invokevirtual 71, 3) := by decide +kernel
theorem dX6_degree_5 : decode cX6_degree 5 = .ok (.ifCond .eq 21, 3) := by decide +kernel
theorem dX6_degree_8 : decode cX6_degree 8 = .ok (.aload_n 0, 1) := by decide +kernel
theorem dX6_degree_9 : decode cX6_degree 9 = .ok (.iload_n 1, 1) := by decide +kernel
theorem dX6_degree_10 : decode cX6_degree 10 = .ok (.iload_n 2, 1) := by decide +kernel
theorem dX6_degree_11 : decode cX6_degree 11 = .ok (.invokevirtual 75, 3) := by decide +kernel
theorem dX6_degree_14 : decode cX6_degree 14 = .ok (.ifCond .eq 12, 3) := by decide +kernel
theorem dX6_degree_17 : decode cX6_degree 17 = .ok (.aload_n 0, 1) := by decide +kernel
theorem dX6_degree_18 : decode cX6_degree 18 = .ok (.iload_n 1, 1) := by decide +kernel
theorem dX6_degree_19 : decode cX6_degree 19 = .ok (.iload_n 2, 1) := by decide +kernel
theorem dX6_degree_20 : decode cX6_degree 20 = .ok (.invokevirtual 83, 3) := by decide +kernel
theorem dX6_degree_23 : decode cX6_degree 23 = .ok (.goto 4, 3) := by decide +kernel
theorem dX6_degree_26 : decode cX6_degree 26 = .ok (.iconst 0, 1) := by decide +kernel
theorem dX6_degree_27 : decode cX6_degree 27 = .ok (.ireturn, 1) := by decide +kernel
set_option maxRecDepth 20000 in
theorem ggX6_isWhole_X6_between : GoodIn wsX6_isWhole wsX6_between := goodIn_r _ [6, 7, 8, 9, 10, 11, 12, 13, 14, 15, 16, 17, 18, 19, 20, 21, 22, 23, 24, 25, 26] (by decide +kernel) (by decide +kernel)
set_option maxRecDepth 20000 in
theorem gX6_isWhole_X6_between : GoodIn wsX6_isWhole (wsV RX6 79 RX6 yX6_between wsX6_between) := goodIn_app (goodIn_of _ (by decide +kernel)) ggX6_isWhole_X6_between
theorem dX6_isWhole_0 : decode cX6_isWhole 0 = .ok (.iconst 1, 1) := by decide +kernel
theorem dX6_isWhole_1 : decode cX6_isWhole 1 = .ok (.istore_n 2, 1) := by decide +kernel
theorem dX6_isWhole_2 : decode cX6_isWhole 2 = .ok (.iconst 0, 1) := by decide +kernel
theorem dX6_isWhole_3 : decode cX6_isWhole 3 = .ok (.istore_n 3, 1) := by decide +kernel
theorem dX6_isWhole_4 : decode cX6_isWhole 4 = .ok (.iload_n 3, 1) := by decide +kernel
theorem dX6_isWhole_5 : decode cX6_isWhole 5 = .ok (.bipush 8, 2) := by decide +kernel
theorem dX6_isWhole_7 : decode cX6_isWhole 7 = .ok (.if_icmp .ge 78, 3) := by decide +kernel
theorem dX6_isWhole_10 : decode cX6_isWhole 10 = .ok (.iconst 0, 1) := by decide +kernel
theorem dX6_isWhole_11 : decode cX6_isWhole 11 = .ok (.istore 4, 2) := by decide +kernel
theorem dX6_isWhole_13 : decode cX6_isWhole 13 = .ok (.iload 4, 2) := by decide +kernel
theorem dX6_isWhole_15 : decode cX6_isWhole 15 = .ok (.aload_n 0, 1) := by decide +kernel
theorem dX6_isWhole_16 : decode cX6_isWhole 16 = .ok (.getfield 7, 3) := by decide +kernel
theorem dX6_isWhole_19 : decode cX6_isWhole 19 = .ok (.iload_n 1, 1) := by decide +kernel
theorem dX6_isWhole_20 : decode cX6_isWhole 20 = .ok (.iaload, 1) := by decide +kernel
theorem dX6_isWhole_21 : decode cX6_isWhole 21 = .ok (.if_icmp .ge 58, 3) := by decide +kernel
theorem dX6_isWhole_24 : decode cX6_isWhole 24 = .ok (.iconst 0, 1) := by decide +kernel
theorem dX6_isWhole_25 : decode cX6_isWhole 25 = .ok (.istore 5, 2) := by decide +kernel
theorem dX6_isWhole_27 : decode cX6_isWhole 27 = .ok (.iload 5, 2) := by decide +kernel
theorem dX6_isWhole_29 : decode cX6_isWhole 29 = .ok (.aload_n 0, 1) := by decide +kernel
theorem dX6_isWhole_30 : decode cX6_isWhole 30 = .ok (.getfield 7, 3) := by decide +kernel
theorem dX6_isWhole_33 : decode cX6_isWhole 33 = .ok (.iload_n 1, 1) := by decide +kernel
theorem dX6_isWhole_34 : decode cX6_isWhole 34 = .ok (.iaload, 1) := by decide +kernel
theorem dX6_isWhole_35 : decode cX6_isWhole 35 = .ok (.if_icmp .ge 38, 3) := by decide +kernel
theorem dX6_isWhole_38 : decode cX6_isWhole 38 = .ok (.iload_n 2, 1) := by decide +kernel
theorem dX6_isWhole_39 : decode cX6_isWhole 39 = .ok (.iload 4, 2) := by decide +kernel
theorem dX6_isWhole_41 : decode cX6_isWhole 41 = .ok (.ishr, 1) := by decide +kernel
theorem dX6_isWhole_42 : decode cX6_isWhole 42 = .ok (.iconst 1, 1) := by decide +kernel
theorem dX6_isWhole_43 : decode cX6_isWhole 43 = .ok (.iand, 1) := by decide +kernel
theorem dX6_isWhole_44 : decode cX6_isWhole 44 = .ok (.iconst 1, 1) := by decide +kernel
theorem dX6_isWhole_45 : decode cX6_isWhole 45 = .ok (.if_icmp .ne 22, 3) := by decide +kernel
theorem dX6_isWhole_48 : decode cX6_isWhole 48 = .ok (.aload_n 0, 1) := by decide +kernel
theorem dX6_isWhole_49 : decode cX6_isWhole 49 = .ok (.iload_n 1, 1) := by decide +kernel
theorem dX6_isWhole_50 : decode cX6_isWhole 50 = .ok (.iload 4, 2) := by decide +kernel
theorem dX6_isWhole_52 : decode cX6_isWhole 52 = .ok (.iload 5, 2) := by decide +kernel
theorem dX6_isWhole_54 : decode cX6_isWhole 54 = .ok (.invokevirtual 79, 3) := by decide +kernel
theorem dX6_isWhole_57 : decode cX6_isWhole 57 = .ok (.ifCond .le 10, 3) := by decide +kernel
theorem dX6_isWhole_60 : decode cX6_isWhole 60 = .ok (.iload_n 2, 1) := by decide +kernel
theorem dX6_isWhole_61 : decode cX6_isWhole 61 = .ok (.iconst 1, 1) := by decide +kernel
theorem dX6_isWhole_62 : decode cX6_isWhole 62 = .ok (.iload 5, 2) := by decide +kernel
theorem dX6_isWhole_64 : decode cX6_isWhole 64 = .ok (.ishl, 1) := by decide +kernel
theorem dX6_isWhole_65 : decode cX6_isWhole 65 = .ok (.ior, 1) := by decide +kernel
theorem dX6_isWhole_66 : decode cX6_isWhole 66 = .ok (.istore_n 2, 1) := by decide +kernel
theorem dX6_isWhole_67 : decode cX6_isWhole 67 = .ok (.iinc 5 1, 3) := by decide +kernel
theorem dX6_isWhole_70 : decode cX6_isWhole 70 = .ok (.goto (-43), 3) := by decide +kernel
theorem dX6_isWhole_73 : decode cX6_isWhole 73 = .ok (.iinc 4 1, 3) := by decide +kernel
theorem dX6_isWhole_76 : decode cX6_isWhole 76 = .ok (.goto (-63), 3) := by decide +kernel
theorem dX6_isWhole_79 : decode cX6_isWhole 79 = .ok (.iinc 3 1, 3) := by decide +kernel
theorem dX6_isWhole_82 : decode cX6_isWhole 82 = .ok (.goto (-78), 3) := by decide +kernel
theorem dX6_isWhole_85 : decode cX6_isWhole 85 = .ok (.iload_n 2, 1) := by decide +kernel
theorem dX6_isWhole_86 : decode cX6_isWhole 86 = .ok (.iconst 1, 1) := by decide +kernel
theorem dX6_isWhole_87 : decode cX6_isWhole 87 = .ok (.aload_n 0, 1) := by decide +kernel
theorem dX6_isWhole_88 : decode cX6_isWhole 88 = .ok (.getfield 7, 3) := by decide +kernel
theorem dX6_isWhole_91 : decode cX6_isWhole 91 = .ok (.iload_n 1, 1) := by decide +kernel
theorem dX6_isWhole_92 : decode cX6_isWhole 92 = .ok (.iaload, 1) := by decide +kernel
theorem dX6_isWhole_93 : decode cX6_isWhole 93 = .ok (.ishl, 1) := by decide +kernel
theorem dX6_isWhole_94 : decode cX6_isWhole 94 = .ok (.iconst 1, 1) := by decide +kernel
theorem dX6_isWhole_95 : decode cX6_isWhole 95 = .ok (.isub, 1) := by decide +kernel
theorem dX6_isWhole_96 : decode cX6_isWhole 96 = .ok (.if_icmp .ne 7, 3) := by decide +kernel
theorem dX6_isWhole_99 : decode cX6_isWhole 99 = .ok (.iconst 1, 1) := by decide +kernel
theorem dX6_isWhole_100 : decode cX6_isWhole 100 = .ok (.goto 4, 3) := by decide +kernel
theorem dX6_isWhole_103 : decode cX6_isWhole 103 = .ok (.iconst 0, 1) := by decide +kernel
theorem dX6_isWhole_104 : decode cX6_isWhole 104 = .ok (.ireturn, 1) := by decide +kernel
set_option maxRecDepth 20000 in
theorem ggX6_whole_X6_isYard : GoodIn wsX6_whole wsX6_isYard := goodIn_r _ [5, 6, 7, 8, 9, 10, 4, 11, 22, 23, 24, 25, 26, 27, 28, 29, 30, 31, 32, 33, 34, 35, 36, 37, 38, 39, 40] (by decide +kernel) (by decide +kernel)
set_option maxRecDepth 20000 in
theorem gX6_whole_X6_isYard : GoodIn wsX6_whole (wsV RX6 71 RX6 yX6_isYard wsX6_isYard) := goodIn_app (goodIn_of _ (by decide +kernel)) ggX6_whole_X6_isYard
set_option maxRecDepth 20000 in
theorem ggX6_whole_X6_isWhole : GoodIn wsX6_whole wsX6_isWhole := goodIn_r _ [15, 16, 17, 18, 19, 4, 20, 21, 22, 23, 24, 25, 26, 27, 28, 29, 30, 31, 32, 33, 34, 35, 36, 37, 38, 39, 40] (by decide +kernel) (by decide +kernel)
set_option maxRecDepth 20000 in
theorem gX6_whole_X6_isWhole : GoodIn wsX6_whole (wsV RX6 87 RX6 yX6_isWhole wsX6_isWhole) := goodIn_app (goodIn_of _ (by decide +kernel)) ggX6_whole_X6_isWhole
theorem dX6_whole_0 : decode cX6_whole 0 = .ok (.aload_n 0, 1) := by decide +kernel
theorem dX6_whole_1 : decode cX6_whole 1 = .ok (.iload_n 1, 1) := by decide +kernel
theorem dX6_whole_2 : decode cX6_whole 2 = .ok (.invokevirtual 71, 3) := by decide +kernel
theorem dX6_whole_5 : decode cX6_whole 5 = .ok (.ifCond .eq 15, 3) := by decide +kernel
theorem dX6_whole_8 : decode cX6_whole 8 = .ok (.aload_n 0, 1) := by decide +kernel
theorem dX6_whole_9 : decode cX6_whole 9 = .ok (.iload_n 1, 1) := by decide +kernel
theorem dX6_whole_10 : decode cX6_whole 10 = .ok (.invokevirtual 87, 3) := by decide +kernel
theorem dX6_whole_13 : decode cX6_whole 13 = .ok (.ifCond .eq 7, 3) := by decide +kernel
theorem dX6_whole_16 : decode cX6_whole 16 = .ok (.iconst 1, 1) := by decide +kernel
theorem dX6_whole_17 : decode cX6_whole 17 = .ok (.goto 4, 3) := by decide +kernel
theorem dX6_whole_20 : decode cX6_whole 20 = .ok (.iconst 0, 1) := by decide +kernel
theorem dX6_whole_21 : decode cX6_whole 21 = .ok (.ireturn, 1) := by decide +kernel
set_option maxRecDepth 20000 in
theorem ggX6_entry_X6_degreeOf : GoodIn wsX6_entry wsX6_degreeOf := goodIn_r _ [5, 6, 7, 8, 9, 4, 10, 11, 12, 13, 14, 15, 16, 17, 18, 19, 20, 21, 22, 23, 24, 25, 26, 27, 28, 29, 30] (by decide +kernel) (by decide +kernel)
set_option maxRecDepth 20000 in
theorem gX6_entry_X6_degreeOf : GoodIn wsX6_entry (wsV RX6 83 RX6 yX6_degreeOf wsX6_degreeOf) := goodIn_app (goodIn_of _ (by decide +kernel)) ggX6_entry_X6_degreeOf
set_option maxRecDepth 20000 in
theorem ggX6_entry_X6_between : GoodIn wsX6_entry wsX6_between := goodIn_r _ [10, 11, 12, 13, 14, 15, 16, 17, 18, 19, 20, 21, 22, 23, 24, 25, 26, 27, 28, 29, 30] (by decide +kernel) (by decide +kernel)
set_option maxRecDepth 20000 in
theorem gX6_entry_X6_between : GoodIn wsX6_entry (wsV RX6 79 RX6 yX6_between wsX6_between) := goodIn_app (goodIn_of _ (by decide +kernel)) ggX6_entry_X6_between
theorem dX6_entry_0 : decode cX6_entry 0 = .ok (.iload_n 2, 1) := by decide +kernel
theorem dX6_entry_1 : decode cX6_entry 1 = .ok (.iload_n 3, 1) := by decide +kernel
theorem dX6_entry_2 : decode cX6_entry 2 = .ok (.if_icmp .ne 13, 3) := by decide +kernel
theorem dX6_entry_5 : decode cX6_entry 5 = .ok (.aload_n 0, 1) := by decide +kernel
theorem dX6_entry_6 : decode cX6_entry 6 = .ok (.iload_n 1, 1) := by decide +kernel
theorem dX6_entry_7 : decode cX6_entry 7 = .ok (.iload_n 2, 1) := by decide +kernel
theorem dX6_entry_8 : decode cX6_entry 8 = .ok (.invokevirtual 83, 3) := by decide +kernel
theorem dX6_entry_11 : decode cX6_entry 11 = .ok (.i2l, 1) := by decide +kernel
theorem dX6_entry_12 : decode cX6_entry 12 = .ok (.goto 12, 3) := by decide +kernel
theorem dX6_entry_15 : decode cX6_entry 15 = .ok (.aload_n 0, 1) := by decide +kernel
theorem dX6_entry_16 : decode cX6_entry 16 = .ok (.iload_n 1, 1) := by decide +kernel
theorem dX6_entry_17 : decode cX6_entry 17 = .ok (.iload_n 2, 1) := by decide +kernel
theorem dX6_entry_18 : decode cX6_entry 18 = .ok (.iload_n 3, 1) := by decide +kernel
theorem dX6_entry_19 : decode cX6_entry 19 = .ok (.invokevirtual 79, 3) := by decide +kernel
theorem dX6_entry_22 : decode cX6_entry 22 = .ok (.ineg, 1) := by decide +kernel
theorem dX6_entry_23 : decode cX6_entry 23 = .ok (.i2l, 1) := by decide +kernel
theorem dX6_entry_24 : decode cX6_entry 24 = .ok (.lreturn, 1) := by decide +kernel
theorem dX6_swap_0 : decode cX6_swap 0 = .ok (.iconst 0, 1) := by decide +kernel
theorem dX6_swap_1 : decode cX6_swap 1 = .ok (.istore 4, 2) := by decide +kernel
theorem dX6_swap_3 : decode cX6_swap 3 = .ok (.iload 4, 2) := by decide +kernel
theorem dX6_swap_5 : decode cX6_swap 5 = .ok (.iload_n 3, 1) := by decide +kernel
theorem dX6_swap_6 : decode cX6_swap 6 = .ok (.if_icmp .ge 61, 3) := by decide +kernel
theorem dX6_swap_9 : decode cX6_swap 9 = .ok (.aload_n 0, 1) := by decide +kernel
theorem dX6_swap_10 : decode cX6_swap 10 = .ok (.getfield 30, 3) := by decide +kernel
theorem dX6_swap_13 : decode cX6_swap 13 = .ok (.bipush 7, 2) := by decide +kernel
theorem dX6_swap_15 : decode cX6_swap 15 = .ok (.iload_n 1, 1) := by decide +kernel
theorem dX6_swap_16 : decode cX6_swap 16 = .ok (.imul, 1) := by decide +kernel
theorem dX6_swap_17 : decode cX6_swap 17 = .ok (.iload 4, 2) := by decide +kernel
theorem dX6_swap_19 : decode cX6_swap 19 = .ok (.iadd, 1) := by decide +kernel
theorem dX6_swap_20 : decode cX6_swap 20 = .ok (.laload, 1) := by decide +kernel
theorem dX6_swap_21 : decode cX6_swap 21 = .ok (.lstore 5, 2) := by decide +kernel
theorem dX6_swap_23 : decode cX6_swap 23 = .ok (.aload_n 0, 1) := by decide +kernel
theorem dX6_swap_24 : decode cX6_swap 24 = .ok (.getfield 30, 3) := by decide +kernel
theorem dX6_swap_27 : decode cX6_swap 27 = .ok (.bipush 7, 2) := by decide +kernel
theorem dX6_swap_29 : decode cX6_swap 29 = .ok (.iload_n 1, 1) := by decide +kernel
theorem dX6_swap_30 : decode cX6_swap 30 = .ok (.imul, 1) := by decide +kernel
theorem dX6_swap_31 : decode cX6_swap 31 = .ok (.iload 4, 2) := by decide +kernel
theorem dX6_swap_33 : decode cX6_swap 33 = .ok (.iadd, 1) := by decide +kernel
theorem dX6_swap_34 : decode cX6_swap 34 = .ok (.aload_n 0, 1) := by decide +kernel
theorem dX6_swap_35 : decode cX6_swap 35 = .ok (.getfield 30, 3) := by decide +kernel
theorem dX6_swap_38 : decode cX6_swap 38 = .ok (.bipush 7, 2) := by decide +kernel
theorem dX6_swap_40 : decode cX6_swap 40 = .ok (.iload_n 2, 1) := by decide +kernel
theorem dX6_swap_41 : decode cX6_swap 41 = .ok (.imul, 1) := by decide +kernel
theorem dX6_swap_42 : decode cX6_swap 42 = .ok (.iload 4, 2) := by decide +kernel
theorem dX6_swap_44 : decode cX6_swap 44 = .ok (.iadd, 1) := by decide +kernel
theorem dX6_swap_45 : decode cX6_swap 45 = .ok (.laload, 1) := by decide +kernel
theorem dX6_swap_46 : decode cX6_swap 46 = .ok (.lastore, 1) := by decide +kernel
theorem dX6_swap_47 : decode cX6_swap 47 = .ok (.aload_n 0, 1) := by decide +kernel
theorem dX6_swap_48 : decode cX6_swap 48 = .ok (.getfield 30, 3) := by decide +kernel
theorem dX6_swap_51 : decode cX6_swap 51 = .ok (.bipush 7, 2) := by decide +kernel
theorem dX6_swap_53 : decode cX6_swap 53 = .ok (.iload_n 2, 1) := by decide +kernel
theorem dX6_swap_54 : decode cX6_swap 54 = .ok (.imul, 1) := by decide +kernel
theorem dX6_swap_55 : decode cX6_swap 55 = .ok (.iload 4, 2) := by decide +kernel
theorem dX6_swap_57 : decode cX6_swap 57 = .ok (.iadd, 1) := by decide +kernel
theorem dX6_swap_58 : decode cX6_swap 58 = .ok (.lload 5, 2) := by decide +kernel
theorem dX6_swap_60 : decode cX6_swap 60 = .ok (.lastore, 1) := by decide +kernel
theorem dX6_swap_61 : decode cX6_swap 61 = .ok (.iinc 4 1, 3) := by decide +kernel
theorem dX6_swap_64 : decode cX6_swap 64 = .ok (.goto (-61), 3) := by decide +kernel
theorem dX6_swap_67 : decode cX6_swap 67 = .ok (.return_, 1) := by decide +kernel
set_option maxRecDepth 20000 in
theorem ggX6_determinant_X6_swap : GoodIn wsX6_determinant wsX6_swap := goodIn_r _ [6, 1, 7, 8, 9, 10, 11, 12, 13, 14, 15, 16, 17, 18, 19, 20, 21, 22, 23, 24, 25] (by decide +kernel) (by decide +kernel)
set_option maxRecDepth 20000 in
theorem gX6_determinant_X6_swap : GoodIn wsX6_determinant (wsV RX6 90 RX6 yX6_swap wsX6_swap) := goodIn_app (goodIn_of _ (by decide +kernel)) ggX6_determinant_X6_swap
theorem dX6_determinant_0 : decode cX6_determinant 0 = .ok (.lconst 1, 1) := by decide +kernel
theorem dX6_determinant_1 : decode cX6_determinant 1 = .ok (.lstore_n 2, 1) := by decide +kernel
theorem dX6_determinant_2 : decode cX6_determinant 2 = .ok (.lconst 1, 1) := by decide +kernel
theorem dX6_determinant_3 : decode cX6_determinant 3 = .ok (.lstore 4, 2) := by decide +kernel
theorem dX6_determinant_5 : decode cX6_determinant 5 = .ok (.iconst 0, 1) := by decide +kernel
theorem dX6_determinant_6 : decode cX6_determinant 6 = .ok (.istore 6, 2) := by decide +kernel
theorem dX6_determinant_8 : decode cX6_determinant 8 = .ok (.iload 6, 2) := by decide +kernel
theorem dX6_determinant_10 : decode cX6_determinant 10 = .ok (.iload_n 1, 1) := by decide +kernel
theorem dX6_determinant_11 : decode cX6_determinant 11 = .ok (.if_icmp .ge 192, 3) := by decide +kernel
theorem dX6_determinant_14 : decode cX6_determinant 14 = .ok (.iload 6, 2) := by decide +kernel
theorem dX6_determinant_16 : decode cX6_determinant 16 = .ok (.istore 7, 2) := by decide +kernel
theorem dX6_determinant_18 : decode cX6_determinant 18 = .ok (.iload 7, 2) := by decide +kernel
theorem dX6_determinant_20 : decode cX6_determinant 20 = .ok (.iload_n 1, 1) := by decide +kernel
theorem dX6_determinant_21 : decode cX6_determinant 21 = .ok (.if_icmp .ge 27, 3) := by decide +kernel
theorem dX6_determinant_24 : decode cX6_determinant 24 = .ok (.aload_n 0, 1) := by decide +kernel
theorem dX6_determinant_25 : decode cX6_determinant 25 = .ok (.getfield 30, 3) := by decide +kernel
theorem dX6_determinant_28 : decode cX6_determinant 28 = .ok (.bipush 7, 2) := by decide +kernel
theorem dX6_determinant_30 : decode cX6_determinant 30 = .ok (.iload 7, 2) := by decide +kernel
theorem dX6_determinant_32 : decode cX6_determinant 32 = .ok (.imul, 1) := by decide +kernel
theorem dX6_determinant_33 : decode cX6_determinant 33 = .ok (.iload 6, 2) := by decide +kernel
theorem dX6_determinant_35 : decode cX6_determinant 35 = .ok (.iadd, 1) := by decide +kernel
theorem dX6_determinant_36 : decode cX6_determinant 36 = .ok (.laload, 1) := by decide +kernel
theorem dX6_determinant_37 : decode cX6_determinant 37 = .ok (.lconst 0, 1) := by decide +kernel
theorem dX6_determinant_38 : decode cX6_determinant 38 = .ok (.lcmp, 1) := by decide +kernel
theorem dX6_determinant_39 : decode cX6_determinant 39 = .ok (.ifCond .ne 9, 3) := by decide +kernel
theorem dX6_determinant_42 : decode cX6_determinant 42 = .ok (.iinc 7 1, 3) := by decide +kernel
theorem dX6_determinant_45 : decode cX6_determinant 45 = .ok (.goto (-27), 3) := by decide +kernel
theorem dX6_determinant_48 : decode cX6_determinant 48 = .ok (.iload 7, 2) := by decide +kernel
theorem dX6_determinant_50 : decode cX6_determinant 50 = .ok (.iload_n 1, 1) := by decide +kernel
theorem dX6_determinant_51 : decode cX6_determinant 51 = .ok (.if_icmp .ne 5, 3) := by decide +kernel
theorem dX6_determinant_54 : decode cX6_determinant 54 = .ok (.lconst 0, 1) := by decide +kernel
theorem dX6_determinant_55 : decode cX6_determinant 55 = .ok (.lreturn, 1) := by decide +kernel
theorem dX6_determinant_56 : decode cX6_determinant 56 = .ok (.iload 7, 2) := by decide +kernel
theorem dX6_determinant_58 : decode cX6_determinant 58 = .ok (.iload 6, 2) := by decide +kernel
theorem dX6_determinant_60 : decode cX6_determinant 60 = .ok (.if_icmp .eq 17, 3) := by decide +kernel
theorem dX6_determinant_63 : decode cX6_determinant 63 = .ok (.aload_n 0, 1) := by decide +kernel
theorem dX6_determinant_64 : decode cX6_determinant 64 = .ok (.iload 7, 2) := by decide +kernel
theorem dX6_determinant_66 : decode cX6_determinant 66 = .ok (.iload 6, 2) := by decide +kernel
theorem dX6_determinant_68 : decode cX6_determinant 68 = .ok (.iload_n 1, 1) := by decide +kernel
theorem dX6_determinant_69 : decode cX6_determinant 69 = .ok (.invokevirtual 90, 3) := by decide +kernel
theorem dX6_determinant_72 : decode cX6_determinant 72 = .ok (.lload 4, 2) := by decide +kernel
theorem dX6_determinant_74 : decode cX6_determinant 74 = .ok (.lneg, 1) := by decide +kernel
theorem dX6_determinant_75 : decode cX6_determinant 75 = .ok (.lstore 4, 2) := by decide +kernel
theorem dX6_determinant_77 : decode cX6_determinant 77 = .ok (.iload 6, 2) := by decide +kernel
theorem dX6_determinant_79 : decode cX6_determinant 79 = .ok (.iconst 1, 1) := by decide +kernel
theorem dX6_determinant_80 : decode cX6_determinant 80 = .ok (.iadd, 1) := by decide +kernel
theorem dX6_determinant_81 : decode cX6_determinant 81 = .ok (.istore 8, 2) := by decide +kernel
theorem dX6_determinant_83 : decode cX6_determinant 83 = .ok (.iload 8, 2) := by decide +kernel
theorem dX6_determinant_85 : decode cX6_determinant 85 = .ok (.iload_n 1, 1) := by decide +kernel
theorem dX6_determinant_86 : decode cX6_determinant 86 = .ok (.if_icmp .ge 97, 3) := by decide +kernel
theorem dX6_determinant_89 : decode cX6_determinant 89 = .ok (.iload 6, 2) := by decide +kernel
theorem dX6_determinant_91 : decode cX6_determinant 91 = .ok (.iconst 1, 1) := by decide +kernel
theorem dX6_determinant_92 : decode cX6_determinant 92 = .ok (.iadd, 1) := by decide +kernel
theorem dX6_determinant_93 : decode cX6_determinant 93 = .ok (.istore 9, 2) := by decide +kernel
theorem dX6_determinant_95 : decode cX6_determinant 95 = .ok (.iload 9, 2) := by decide +kernel
theorem dX6_determinant_97 : decode cX6_determinant 97 = .ok (.iload_n 1, 1) := by decide +kernel
theorem dX6_determinant_98 : decode cX6_determinant 98 = .ok (.if_icmp .ge 79, 3) := by decide +kernel
theorem dX6_determinant_101 : decode cX6_determinant 101 = .ok (.aload_n 0, 1) := by decide +kernel
theorem dX6_determinant_102 : decode cX6_determinant 102 = .ok (.getfield 30, 3) := by decide +kernel
theorem dX6_determinant_105 : decode cX6_determinant 105 = .ok (.bipush 7, 2) := by decide +kernel
theorem dX6_determinant_107 : decode cX6_determinant 107 = .ok (.iload 8, 2) := by decide +kernel
theorem dX6_determinant_109 : decode cX6_determinant 109 = .ok (.imul, 1) := by decide +kernel
theorem dX6_determinant_110 : decode cX6_determinant 110 = .ok (.iload 9, 2) := by decide +kernel
theorem dX6_determinant_112 : decode cX6_determinant 112 = .ok (.iadd, 1) := by decide +kernel
theorem dX6_determinant_113 : decode cX6_determinant 113 = .ok (.aload_n 0, 1) := by decide +kernel
theorem dX6_determinant_114 : decode cX6_determinant 114 = .ok (.getfield 30, 3) := by decide +kernel
theorem dX6_determinant_117 : decode cX6_determinant 117 = .ok (.bipush 7, 2) := by decide +kernel
theorem dX6_determinant_119 : decode cX6_determinant 119 = .ok (.iload 8, 2) := by decide +kernel
theorem dX6_determinant_121 : decode cX6_determinant 121 = .ok (.imul, 1) := by decide +kernel
theorem dX6_determinant_122 : decode cX6_determinant 122 = .ok (.iload 9, 2) := by decide +kernel
theorem dX6_determinant_124 : decode cX6_determinant 124 = .ok (.iadd, 1) := by decide +kernel
theorem dX6_determinant_125 : decode cX6_determinant 125 = .ok (.laload, 1) := by decide +kernel
theorem dX6_determinant_126 : decode cX6_determinant 126 = .ok (.aload_n 0, 1) := by decide +kernel
theorem dX6_determinant_127 : decode cX6_determinant 127 = .ok (.getfield 30, 3) := by decide +kernel
theorem dX6_determinant_130 : decode cX6_determinant 130 = .ok (.bipush 7, 2) := by decide +kernel
theorem dX6_determinant_132 : decode cX6_determinant 132 = .ok (.iload 6, 2) := by decide +kernel
theorem dX6_determinant_134 : decode cX6_determinant 134 = .ok (.imul, 1) := by decide +kernel
theorem dX6_determinant_135 : decode cX6_determinant 135 = .ok (.iload 6, 2) := by decide +kernel
theorem dX6_determinant_137 : decode cX6_determinant 137 = .ok (.iadd, 1) := by decide +kernel
theorem dX6_determinant_138 : decode cX6_determinant 138 = .ok (.laload, 1) := by decide +kernel
theorem dX6_determinant_139 : decode cX6_determinant 139 = .ok (.lmul, 1) := by decide +kernel
theorem dX6_determinant_140 : decode cX6_determinant 140 = .ok (.aload_n 0, 1) := by decide +kernel
theorem dX6_determinant_141 : decode cX6_determinant 141 = .ok (.getfield 30, 3) := by decide +kernel
theorem dX6_determinant_144 : decode cX6_determinant 144 = .ok (.bipush 7, 2) := by decide +kernel
theorem dX6_determinant_146 : decode cX6_determinant 146 = .ok (.iload 8, 2) := by decide +kernel
theorem dX6_determinant_148 : decode cX6_determinant 148 = .ok (.imul, 1) := by decide +kernel
theorem dX6_determinant_149 : decode cX6_determinant 149 = .ok (.iload 6, 2) := by decide +kernel
theorem dX6_determinant_151 : decode cX6_determinant 151 = .ok (.iadd, 1) := by decide +kernel
theorem dX6_determinant_152 : decode cX6_determinant 152 = .ok (.laload, 1) := by decide +kernel
theorem dX6_determinant_153 : decode cX6_determinant 153 = .ok (.aload_n 0, 1) := by decide +kernel

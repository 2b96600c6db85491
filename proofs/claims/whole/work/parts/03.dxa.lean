theorem dX0_init_0 : decode cX0_init 0 = .ok (.aload_n 0, 1) := by decide +kernel
theorem dX0_init_1 : decode cX0_init 1 = .ok (.invokespecial 3, 3) := by decide +kernel
theorem dX0_init_4 : decode cX0_init 4 = .ok (.aload_n 0, 1) := by decide +kernel
theorem dX0_init_5 : decode cX0_init 5 = .ok (.bipush 8, 2) := by decide +kernel
theorem dX0_init_7 : decode cX0_init 7 = .ok (.newarray .int, 2) := by decide +kernel
theorem dX0_init_9 : decode cX0_init 9 = .ok (.putfield 9, 3) := by decide +kernel
theorem dX0_init_12 : decode cX0_init 12 = .ok (.return_, 1) := by decide +kernel
set_option maxRecDepth 20000 in
theorem ggX0_burnsAll_J7_fill_53178 : GoodIn wsX0_burnsAll wsJ7_fill_53178 := goodIn_r _ [6] (by decide +kernel) (by decide +kernel)
set_option maxRecDepth 20000 in
theorem gX0_burnsAll_J7_fill_53178 : GoodIn wsX0_burnsAll (va_wsS RX0 15 yJ7_fill_53178 wsJ7_fill_53178) := goodIn_app (goodIn_of _ (by decide +kernel)) ggX0_burnsAll_J7_fill_53178
set_option maxRecDepth 20000 in
theorem ggX0_burnsAll_X4_isCalm : GoodIn wsX0_burnsAll wsX4_isCalm := goodIn_r _ [11, 12, 13, 26, 27, 28, 29] (by decide +kernel) (by decide +kernel)
set_option maxRecDepth 20000 in
theorem gX0_burnsAll_X4_isCalm : GoodIn wsX0_burnsAll (wsV RX0 21 RX4 yX4_isCalm wsX4_isCalm) := goodIn_app (goodIn_of _ (by decide +kernel)) ggX0_burnsAll_X4_isCalm
set_option maxRecDepth 20000 in
theorem ggX0_burnsAll_X0_leastToBurn : GoodIn wsX0_burnsAll wsX0_leastToBurn := goodIn_r _ [18, 19, 2, 1, 20, 26, 27, 28, 29, 25] (by decide +kernel) (by decide +kernel)
set_option maxRecDepth 20000 in
theorem gX0_burnsAll_X0_leastToBurn : GoodIn wsX0_burnsAll (wsV RX0 31 RX0 yX0_leastToBurn wsX0_leastToBurn) := goodIn_app (goodIn_of _ (by decide +kernel)) ggX0_burnsAll_X0_leastToBurn
set_option maxRecDepth 20000 in
theorem ggX0_burnsAll_X0_allHaveRounds : GoodIn wsX0_burnsAll wsX0_allHaveRounds := goodIn_r _ [24, 2, 1, 26, 27, 28, 29, 25] (by decide +kernel) (by decide +kernel)
set_option maxRecDepth 20000 in
theorem gX0_burnsAll_X0_allHaveRounds : GoodIn wsX0_burnsAll (wsV RX0 35 RX0 yX0_allHaveRounds wsX0_allHaveRounds) := goodIn_app (goodIn_of _ (by decide +kernel)) ggX0_burnsAll_X0_allHaveRounds
theorem dX0_burnsAll_0 : decode cX0_burnsAll 0 = .ok (.aload_n 0, 1) := by decide +kernel
theorem dX0_burnsAll_1 : decode cX0_burnsAll 1 = .ok (.getfield 9, 3) := by decide +kernel
theorem dX0_burnsAll_4 : decode cX0_burnsAll 4 = .ok (.iconst (-1), 1) := by decide +kernel
theorem dX0_burnsAll_5 : decode cX0_burnsAll 5 = .ok (.invokestatic 15, 3) := by decide +kernel
theorem dX0_burnsAll_8 : decode cX0_burnsAll 8 = .ok (.aload_n 1, 1) := by decide +kernel
theorem dX0_burnsAll_9 : decode cX0_burnsAll 9 = .ok (.aload_n 2, 1) := by decide +kernel
theorem dX0_burnsAll_10 : decode cX0_burnsAll 10 = .ok (.invokevirtual 21, 3) := by decide +kernel
theorem dX0_burnsAll_13 : decode cX0_burnsAll 13 = .ok (.ifCond .ne 5, 3) := by decide +kernel
theorem dX0_burnsAll_16 : decode cX0_burnsAll 16 = .ok (.iconst 0, 1) := by decide +kernel
theorem dX0_burnsAll_17 : decode cX0_burnsAll 17 = .ok (.ireturn, 1) := by decide +kernel
theorem dX0_burnsAll_18 : decode cX0_burnsAll 18 = .ok (.aload_n 0, 1) := by decide +kernel
theorem dX0_burnsAll_19 : decode cX0_burnsAll 19 = .ok (.getfield 9, 3) := by decide +kernel
theorem dX0_burnsAll_22 : decode cX0_burnsAll 22 = .ok (.iconst 0, 1) := by decide +kernel
theorem dX0_burnsAll_23 : decode cX0_burnsAll 23 = .ok (.iconst 0, 1) := by decide +kernel
theorem dX0_burnsAll_24 : decode cX0_burnsAll 24 = .ok (.iastore, 1) := by decide +kernel
theorem dX0_burnsAll_25 : decode cX0_burnsAll 25 = .ok (.iconst 1, 1) := by decide +kernel
theorem dX0_burnsAll_26 : decode cX0_burnsAll 26 = .ok (.istore_n 3, 1) := by decide +kernel
theorem dX0_burnsAll_27 : decode cX0_burnsAll 27 = .ok (.iload_n 3, 1) := by decide +kernel
theorem dX0_burnsAll_28 : decode cX0_burnsAll 28 = .ok (.aload_n 1, 1) := by decide +kernel
theorem dX0_burnsAll_29 : decode cX0_burnsAll 29 = .ok (.getfield 27, 3) := by decide +kernel
theorem dX0_burnsAll_32 : decode cX0_burnsAll 32 = .ok (.if_icmp .ge 63, 3) := by decide +kernel
theorem dX0_burnsAll_35 : decode cX0_burnsAll 35 = .ok (.iconst 1, 1) := by decide +kernel
theorem dX0_burnsAll_36 : decode cX0_burnsAll 36 = .ok (.istore 4, 2) := by decide +kernel
theorem dX0_burnsAll_38 : decode cX0_burnsAll 38 = .ok (.iload 4, 2) := by decide +kernel
theorem dX0_burnsAll_40 : decode cX0_burnsAll 40 = .ok (.aload_n 1, 1) := by decide +kernel
theorem dX0_burnsAll_41 : decode cX0_burnsAll 41 = .ok (.getfield 27, 3) := by decide +kernel
theorem dX0_burnsAll_44 : decode cX0_burnsAll 44 = .ok (.if_icmp .ge 45, 3) := by decide +kernel
theorem dX0_burnsAll_47 : decode cX0_burnsAll 47 = .ok (.aload_n 0, 1) := by decide +kernel
theorem dX0_burnsAll_48 : decode cX0_burnsAll 48 = .ok (.getfield 9, 3) := by decide +kernel
theorem dX0_burnsAll_51 : decode cX0_burnsAll 51 = .ok (.iload 4, 2) := by decide +kernel
theorem dX0_burnsAll_53 : decode cX0_burnsAll 53 = .ok (.iaload, 1) := by decide +kernel
theorem dX0_burnsAll_54 : decode cX0_burnsAll 54 = .ok (.iconst (-1), 1) := by decide +kernel
theorem dX0_burnsAll_55 : decode cX0_burnsAll 55 = .ok (.if_icmp .ne 28, 3) := by decide +kernel
theorem dX0_burnsAll_58 : decode cX0_burnsAll 58 = .ok (.aload_n 2, 1) := by decide +kernel
theorem dX0_burnsAll_59 : decode cX0_burnsAll 59 = .ok (.iload 4, 2) := by decide +kernel
theorem dX0_burnsAll_61 : decode cX0_burnsAll 61 = .ok (.laload, 1) := by decide +kernel
theorem dX0_burnsAll_62 : decode cX0_burnsAll 62 = .ok (.aload_n 0, 1) := by decide +kernel
theorem dX0_burnsAll_63 : decode cX0_burnsAll 63 = .ok (.aload_n 1, 1) := by decide +kernel
theorem dX0_burnsAll_64 : decode cX0_burnsAll 64 = .ok (.iload 4, 2) := by decide +kernel
theorem dX0_burnsAll_66 : decode cX0_burnsAll 66 = .ok (.iload_n 3, 1) := by decide +kernel
theorem dX0_burnsAll_67 : decode cX0_burnsAll 67 = .ok (.invokevirtual 31, 3) := by decide +kernel
theorem dX0_burnsAll_70 : decode cX0_burnsAll 70 = .ok (.i2l, 1) := by decide +kernel
theorem dX0_burnsAll_71 : decode cX0_burnsAll 71 = .ok (.lcmp, 1) := by decide +kernel
theorem dX0_burnsAll_72 : decode cX0_burnsAll 72 = .ok (.ifCond .lt 11, 3) := by decide +kernel
theorem dX0_burnsAll_75 : decode cX0_burnsAll 75 = .ok (.aload_n 0, 1) := by decide +kernel
theorem dX0_burnsAll_76 : decode cX0_burnsAll 76 = .ok (.getfield 9, 3) := by decide +kernel
theorem dX0_burnsAll_79 : decode cX0_burnsAll 79 = .ok (.iload 4, 2) := by decide +kernel
theorem dX0_burnsAll_81 : decode cX0_burnsAll 81 = .ok (.iload_n 3, 1) := by decide +kernel
theorem dX0_burnsAll_82 : decode cX0_burnsAll 82 = .ok (.iastore, 1) := by decide +kernel
theorem dX0_burnsAll_83 : decode cX0_burnsAll 83 = .ok (.iinc 4 1, 3) := by decide +kernel
theorem dX0_burnsAll_86 : decode cX0_burnsAll 86 = .ok (.goto (-48), 3) := by decide +kernel
theorem dX0_burnsAll_89 : decode cX0_burnsAll 89 = .ok (.iinc 3 1, 3) := by decide +kernel
theorem dX0_burnsAll_92 : decode cX0_burnsAll 92 = .ok (.goto (-65), 3) := by decide +kernel
theorem dX0_burnsAll_95 : decode cX0_burnsAll 95 = .ok (.aload_n 0, 1) := by decide +kernel
theorem dX0_burnsAll_96 : decode cX0_burnsAll 96 = .ok (.aload_n 1, 1) := by decide +kernel
theorem dX0_burnsAll_97 : decode cX0_burnsAll 97 = .ok (.invokevirtual 35, 3) := by decide +kernel
theorem dX0_burnsAll_100 : decode cX0_burnsAll 100 = .ok (.ireturn, 1) := by decide +kernel
theorem dX0_allHaveRounds_0 : decode cX0_allHaveRounds 0 = .ok (.iconst 0, 1) := by decide +kernel
theorem dX0_allHaveRounds_1 : decode cX0_allHaveRounds 1 = .ok (.istore_n 2, 1) := by decide +kernel
theorem dX0_allHaveRounds_2 : decode cX0_allHaveRounds 2 = .ok (.iload_n 2, 1) := by decide +kernel
theorem dX0_allHaveRounds_3 : decode cX0_allHaveRounds 3 = .ok (.aload_n 1, 1) := by decide +kernel
theorem dX0_allHaveRounds_4 : decode cX0_allHaveRounds 4 = .ok (.getfield 27, 3) := by decide +kernel
theorem dX0_allHaveRounds_7 : decode cX0_allHaveRounds 7 = .ok (.if_icmp .ge 21, 3) := by decide +kernel
theorem dX0_allHaveRounds_10 : decode cX0_allHaveRounds 10 = .ok (.aload_n 0, 1) := by decide +kernel
theorem dX0_allHaveRounds_11 : decode cX0_allHaveRounds 11 = .ok (.getfield 9, 3) := by decide +kernel
theorem dX0_allHaveRounds_14 : decode cX0_allHaveRounds 14 = .ok (.iload_n 2, 1) := by decide +kernel
theorem dX0_allHaveRounds_15 : decode cX0_allHaveRounds 15 = .ok (.iaload, 1) := by decide +kernel
theorem dX0_allHaveRounds_16 : decode cX0_allHaveRounds 16 = .ok (.iconst (-1), 1) := by decide +kernel
theorem dX0_allHaveRounds_17 : decode cX0_allHaveRounds 17 = .ok (.if_icmp .ne 5, 3) := by decide +kernel
theorem dX0_allHaveRounds_20 : decode cX0_allHaveRounds 20 = .ok (.iconst 0, 1) := by decide +kernel
theorem dX0_allHaveRounds_21 : decode cX0_allHaveRounds 21 = .ok (.ireturn, 1) := by decide +kernel
theorem dX0_allHaveRounds_22 : decode cX0_allHaveRounds 22 = .ok (.iinc 2 1, 3) := by decide +kernel
theorem dX0_allHaveRounds_25 : decode cX0_allHaveRounds 25 = .ok (.goto (-23), 3) := by decide +kernel
theorem dX0_allHaveRounds_28 : decode cX0_allHaveRounds 28 = .ok (.iconst 1, 1) := by decide +kernel
theorem dX0_allHaveRounds_29 : decode cX0_allHaveRounds 29 = .ok (.ireturn, 1) := by decide +kernel
theorem dX0_leastToBurn_0 : decode cX0_leastToBurn 0 = .ok (.aload_n 1, 1) := by decide +kernel
theorem dX0_leastToBurn_1 : decode cX0_leastToBurn 1 = .ok (.getfield 39, 3) := by decide +kernel
theorem dX0_leastToBurn_4 : decode cX0_leastToBurn 4 = .ok (.iload_n 2, 1) := by decide +kernel
theorem dX0_leastToBurn_5 : decode cX0_leastToBurn 5 = .ok (.iaload, 1) := by decide +kernel
theorem dX0_leastToBurn_6 : decode cX0_leastToBurn 6 = .ok (.istore 4, 2) := by decide +kernel
theorem dX0_leastToBurn_8 : decode cX0_leastToBurn 8 = .ok (.iconst 0, 1) := by decide +kernel
theorem dX0_leastToBurn_9 : decode cX0_leastToBurn 9 = .ok (.istore 5, 2) := by decide +kernel
theorem dX0_leastToBurn_11 : decode cX0_leastToBurn 11 = .ok (.iload 5, 2) := by decide +kernel
theorem dX0_leastToBurn_13 : decode cX0_leastToBurn 13 = .ok (.aload_n 1, 1) := by decide +kernel
theorem dX0_leastToBurn_14 : decode cX0_leastToBurn 14 = .ok (.getfield 27, 3) := by decide +kernel
theorem dX0_leastToBurn_17 : decode cX0_leastToBurn 17 = .ok (.if_icmp .ge 45, 3) := by decide +kernel
theorem dX0_leastToBurn_20 : decode cX0_leastToBurn 20 = .ok (.aload_n 0, 1) := by decide +kernel
theorem dX0_leastToBurn_21 : decode cX0_leastToBurn 21 = .ok (.getfield 9, 3) := by decide +kernel
theorem dX0_leastToBurn_24 : decode cX0_leastToBurn 24 = .ok (.iload 5, 2) := by decide +kernel
theorem dX0_leastToBurn_26 : decode cX0_leastToBurn 26 = .ok (.iaload, 1) := by decide +kernel
theorem dX0_leastToBurn_27 : decode cX0_leastToBurn 27 = .ok (.iconst (-1), 1) := by decide +kernel
theorem dX0_leastToBurn_28 : decode cX0_leastToBurn 28 = .ok (.if_icmp .eq 28, 3) := by decide +kernel
theorem dX0_leastToBurn_31 : decode cX0_leastToBurn 31 = .ok (.aload_n 0, 1) := by decide +kernel
theorem dX0_leastToBurn_32 : decode cX0_leastToBurn 32 = .ok (.getfield 9, 3) := by decide +kernel
theorem dX0_leastToBurn_35 : decode cX0_leastToBurn 35 = .ok (.iload 5, 2) := by decide +kernel
theorem dX0_leastToBurn_37 : decode cX0_leastToBurn 37 = .ok (.iaload, 1) := by decide +kernel
theorem dX0_leastToBurn_38 : decode cX0_leastToBurn 38 = .ok (.iload_n 3, 1) := by decide +kernel
theorem dX0_leastToBurn_39 : decode cX0_leastToBurn 39 = .ok (.if_icmp .ge 17, 3) := by decide +kernel
theorem dX0_leastToBurn_42 : decode cX0_leastToBurn 42 = .ok (.iload 4, 2) := by decide +kernel
theorem dX0_leastToBurn_44 : decode cX0_leastToBurn 44 = .ok (.aload_n 1, 1) := by decide +kernel
theorem dX0_leastToBurn_45 : decode cX0_leastToBurn 45 = .ok (.getfield 42, 3) := by decide +kernel
theorem dX0_leastToBurn_48 : decode cX0_leastToBurn 48 = .ok (.iload_n 2, 1) := by decide +kernel
theorem dX0_leastToBurn_49 : decode cX0_leastToBurn 49 = .ok (.aaload, 1) := by decide +kernel
theorem dX0_leastToBurn_50 : decode cX0_leastToBurn 50 = .ok (.iload 5, 2) := by decide +kernel
theorem dX0_leastToBurn_52 : decode cX0_leastToBurn 52 = .ok (.iaload, 1) := by decide +kernel
theorem dX0_leastToBurn_53 : decode cX0_leastToBurn 53 = .ok (.isub, 1) := by decide +kernel
theorem dX0_leastToBurn_54 : decode cX0_leastToBurn 54 = .ok (.istore 4, 2) := by decide +kernel
theorem dX0_leastToBurn_56 : decode cX0_leastToBurn 56 = .ok (.iinc 5 1, 3) := by decide +kernel
theorem dX0_leastToBurn_59 : decode cX0_leastToBurn 59 = .ok (.goto (-48), 3) := by decide +kernel
theorem dX0_leastToBurn_62 : decode cX0_leastToBurn 62 = .ok (.iload 4, 2) := by decide +kernel
theorem dX0_leastToBurn_64 : decode cX0_leastToBurn 64 = .ok (.ireturn, 1) := by decide +kernel
theorem dX0_pathsBack_0 : decode cX0_pathsBack 0 = .ok (.iconst 0, 1) := by decide +kernel
theorem dX0_pathsBack_1 : decode cX0_pathsBack 1 = .ok (.istore 4, 2) := by decide +kernel
theorem dX0_pathsBack_3 : decode cX0_pathsBack 3 = .ok (.iconst 0, 1) := by decide +kernel
theorem dX0_pathsBack_4 : decode cX0_pathsBack 4 = .ok (.istore 5, 2) := by decide +kernel
theorem dX0_pathsBack_6 : decode cX0_pathsBack 6 = .ok (.iload 5, 2) := by decide +kernel
theorem dX0_pathsBack_8 : decode cX0_pathsBack 8 = .ok (.iload_n 3, 1) := by decide +kernel
theorem dX0_pathsBack_9 : decode cX0_pathsBack 9 = .ok (.if_icmp .ge 41, 3) := by decide +kernel
theorem dX0_pathsBack_12 : decode cX0_pathsBack 12 = .ok (.aload_n 0, 1) := by decide +kernel
theorem dX0_pathsBack_13 : decode cX0_pathsBack 13 = .ok (.getfield 9, 3) := by decide +kernel
theorem dX0_pathsBack_16 : decode cX0_pathsBack 16 = .ok (.iload 5, 2) := by decide +kernel
theorem dX0_pathsBack_18 : decode cX0_pathsBack 18 = .ok (.iaload, 1) := by decide +kernel
theorem dX0_pathsBack_19 : decode cX0_pathsBack 19 = .ok (.aload_n 0, 1) := by decide +kernel
theorem dX0_pathsBack_20 : decode cX0_pathsBack 20 = .ok (.getfield 9, 3) := by decide +kernel
theorem dX0_pathsBack_23 : decode cX0_pathsBack 23 = .ok (.iload_n 2, 1) := by decide +kernel
theorem dX0_pathsBack_24 : decode cX0_pathsBack 24 = .ok (.iaload, 1) := by decide +kernel
theorem dX0_pathsBack_25 : decode cX0_pathsBack 25 = .ok (.iconst 1, 1) := by decide +kernel
theorem dX0_pathsBack_26 : decode cX0_pathsBack 26 = .ok (.isub, 1) := by decide +kernel
theorem dX0_pathsBack_27 : decode cX0_pathsBack 27 = .ok (.if_icmp .ne 17, 3) := by decide +kernel
theorem dX0_pathsBack_30 : decode cX0_pathsBack 30 = .ok (.iload 4, 2) := by decide +kernel
theorem dX0_pathsBack_32 : decode cX0_pathsBack 32 = .ok (.aload_n 1, 1) := by decide +kernel
theorem dX0_pathsBack_33 : decode cX0_pathsBack 33 = .ok (.getfield 42, 3) := by decide +kernel
theorem dX0_pathsBack_36 : decode cX0_pathsBack 36 = .ok (.iload_n 2, 1) := by decide +kernel
theorem dX0_pathsBack_37 : decode cX0_pathsBack 37 = .ok (.aaload, 1) := by decide +kernel
theorem dX0_pathsBack_38 : decode cX0_pathsBack 38 = .ok (.iload 5, 2) := by decide +kernel
theorem dX0_pathsBack_40 : decode cX0_pathsBack 40 = .ok (.iaload, 1) := by decide +kernel
theorem dX0_pathsBack_41 : decode cX0_pathsBack 41 = .ok (.iadd, 1) := by decide +kernel
theorem dX0_pathsBack_42 : decode cX0_pathsBack 42 = .ok (.istore 4, 2) := by decide +kernel
theorem dX0_pathsBack_44 : decode cX0_pathsBack 44 = .ok (.iinc 5 1, 3) := by decide +kernel
theorem dX0_pathsBack_47 : decode cX0_pathsBack 47 = .ok (.goto (-41), 3) := by decide +kernel
theorem dX0_pathsBack_50 : decode cX0_pathsBack 50 = .ok (.iload 4, 2) := by decide +kernel
theorem dX0_pathsBack_52 : decode cX0_pathsBack 52 = .ok (.ireturn, 1) := by decide +kernel
set_option maxRecDepth 20000 in
theorem ggX0_leadsTo_X0_leastToBurn : GoodIn wsX0_leadsTo wsX0_leastToBurn := goodIn_r _ [7, 8, 2, 1, 9, 15, 16, 17, 18, 14] (by decide +kernel) (by decide +kernel)
set_option maxRecDepth 20000 in
theorem gX0_leadsTo_X0_leastToBurn : GoodIn wsX0_leadsTo (wsV RX0 31 RX0 yX0_leastToBurn wsX0_leastToBurn) := goodIn_app (goodIn_of _ (by decide +kernel)) ggX0_leadsTo_X0_leastToBurn
set_option maxRecDepth 20000 in
theorem ggX0_leadsTo_X0_pathsBack : GoodIn wsX0_leadsTo wsX0_pathsBack := goodIn_r _ [13, 1, 9, 14, 15, 16, 17, 18] (by decide +kernel) (by decide +kernel)
set_option maxRecDepth 20000 in
theorem gX0_leadsTo_X0_pathsBack : GoodIn wsX0_leadsTo (wsV RX0 46 RX0 yX0_pathsBack wsX0_pathsBack) := goodIn_app (goodIn_of _ (by decide +kernel)) ggX0_leadsTo_X0_pathsBack
theorem dX0_leadsTo_0 : decode cX0_leadsTo 0 = .ok (.aload_n 2, 1) := by decide +kernel
theorem dX0_leadsTo_1 : decode cX0_leadsTo 1 = .ok (.iload_n 3, 1) := by decide +kernel
theorem dX0_leadsTo_2 : decode cX0_leadsTo 2 = .ok (.laload, 1) := by decide +kernel
theorem dX0_leadsTo_3 : decode cX0_leadsTo 3 = .ok (.aload_n 0, 1) := by decide +kernel
theorem dX0_leadsTo_4 : decode cX0_leadsTo 4 = .ok (.aload_n 1, 1) := by decide +kernel
theorem dX0_leadsTo_5 : decode cX0_leadsTo 5 = .ok (.iload_n 3, 1) := by decide +kernel
theorem dX0_leadsTo_6 : decode cX0_leadsTo 6 = .ok (.aload_n 0, 1) := by decide +kernel
theorem dX0_leadsTo_7 : decode cX0_leadsTo 7 = .ok (.getfield 9, 3) := by decide +kernel
theorem dX0_leadsTo_10 : decode cX0_leadsTo 10 = .ok (.iload_n 3, 1) := by decide +kernel
theorem dX0_leadsTo_11 : decode cX0_leadsTo 11 = .ok (.iaload, 1) := by decide +kernel
theorem dX0_leadsTo_12 : decode cX0_leadsTo 12 = .ok (.invokevirtual 31, 3) := by decide +kernel
theorem dX0_leadsTo_15 : decode cX0_leadsTo 15 = .ok (.i2l, 1) := by decide +kernel
theorem dX0_leadsTo_16 : decode cX0_leadsTo 16 = .ok (.lsub, 1) := by decide +kernel
theorem dX0_leadsTo_17 : decode cX0_leadsTo 17 = .ok (.lstore 4, 2) := by decide +kernel
theorem dX0_leadsTo_19 : decode cX0_leadsTo 19 = .ok (.iconst 0, 1) := by decide +kernel
theorem dX0_leadsTo_20 : decode cX0_leadsTo 20 = .ok (.istore 6, 2) := by decide +kernel
theorem dX0_leadsTo_22 : decode cX0_leadsTo 22 = .ok (.iload 6, 2) := by decide +kernel
theorem dX0_leadsTo_24 : decode cX0_leadsTo 24 = .ok (.aload_n 1, 1) := by decide +kernel
theorem dX0_leadsTo_25 : decode cX0_leadsTo 25 = .ok (.getfield 27, 3) := by decide +kernel
theorem dX0_leadsTo_28 : decode cX0_leadsTo 28 = .ok (.if_icmp .ge 29, 3) := by decide +kernel
theorem dX0_leadsTo_31 : decode cX0_leadsTo 31 = .ok (.aload_n 0, 1) := by decide +kernel
theorem dX0_leadsTo_32 : decode cX0_leadsTo 32 = .ok (.aload_n 1, 1) := by decide +kernel
theorem dX0_leadsTo_33 : decode cX0_leadsTo 33 = .ok (.iload_n 3, 1) := by decide +kernel
theorem dX0_leadsTo_34 : decode cX0_leadsTo 34 = .ok (.iload 6, 2) := by decide +kernel
theorem dX0_leadsTo_36 : decode cX0_leadsTo 36 = .ok (.iconst 1, 1) := by decide +kernel
theorem dX0_leadsTo_37 : decode cX0_leadsTo 37 = .ok (.iadd, 1) := by decide +kernel
theorem dX0_leadsTo_38 : decode cX0_leadsTo 38 = .ok (.invokevirtual 46, 3) := by decide +kernel
theorem dX0_leadsTo_41 : decode cX0_leadsTo 41 = .ok (.i2l, 1) := by decide +kernel
theorem dX0_leadsTo_42 : decode cX0_leadsTo 42 = .ok (.lload 4, 2) := by decide +kernel
theorem dX0_leadsTo_44 : decode cX0_leadsTo 44 = .ok (.lcmp, 1) := by decide +kernel
theorem dX0_leadsTo_45 : decode cX0_leadsTo 45 = .ok (.ifCond .le 6, 3) := by decide +kernel
theorem dX0_leadsTo_48 : decode cX0_leadsTo 48 = .ok (.iload 6, 2) := by decide +kernel
theorem dX0_leadsTo_50 : decode cX0_leadsTo 50 = .ok (.ireturn, 1) := by decide +kernel
theorem dX0_leadsTo_51 : decode cX0_leadsTo 51 = .ok (.iinc 6 1, 3) := by decide +kernel
theorem dX0_leadsTo_54 : decode cX0_leadsTo 54 = .ok (.goto (-32), 3) := by decide +kernel
theorem dX0_leadsTo_57 : decode cX0_leadsTo 57 = .ok (.iconst (-1), 1) := by decide +kernel
theorem dX0_leadsTo_58 : decode cX0_leadsTo 58 = .ok (.ireturn, 1) := by decide +kernel
set_option maxRecDepth 20000 in
theorem ggX0_byPath_X0_leastToBurn : GoodIn wsX0_byPath wsX0_leastToBurn := goodIn_r _ [6, 7, 8, 1, 9, 19, 20, 21, 22, 18] (by decide +kernel) (by decide +kernel)
set_option maxRecDepth 20000 in
theorem gX0_byPath_X0_leastToBurn : GoodIn wsX0_byPath (wsV RX0 31 RX0 yX0_leastToBurn wsX0_leastToBurn) := goodIn_app (goodIn_of _ (by decide +kernel)) ggX0_byPath_X0_leastToBurn
set_option maxRecDepth 20000 in
theorem ggX0_byPath_X0_leadsTo : GoodIn wsX0_byPath wsX0_leadsTo := goodIn_r _ [13, 1, 8, 2, 3, 4, 5, 6, 7, 9, 14, 15, 16, 17, 18, 19, 20, 21, 22] (by decide +kernel) (by decide +kernel)
set_option maxRecDepth 20000 in
theorem gX0_byPath_X0_leadsTo : GoodIn wsX0_byPath (wsV RX0 49 RX0 yX0_leadsTo wsX0_leadsTo) := goodIn_app (goodIn_of _ (by decide +kernel)) ggX0_byPath_X0_leadsTo
set_option maxRecDepth 20000 in
theorem ggX0_byPath_X0_pathsBack : GoodIn wsX0_byPath wsX0_pathsBack := goodIn_r _ [17, 1, 9, 18, 19, 20, 21, 22] (by decide +kernel) (by decide +kernel)
set_option maxRecDepth 20000 in
theorem gX0_byPath_X0_pathsBack : GoodIn wsX0_byPath (wsV RX0 46 RX0 yX0_pathsBack wsX0_pathsBack) := goodIn_app (goodIn_of _ (by decide +kernel)) ggX0_byPath_X0_pathsBack
theorem dX0_byPath_0 : decode cX0_byPath 0 = .ok (.aload_n 2, 1) := by decide +kernel
theorem dX0_byPath_1 : decode cX0_byPath 1 = .ok (.iload_n 3, 1) := by decide +kernel
theorem dX0_byPath_2 : decode cX0_byPath 2 = .ok (.laload, 1) := by decide +kernel
theorem dX0_byPath_3 : decode cX0_byPath 3 = .ok (.aload_n 0, 1) := by decide +kernel
theorem dX0_byPath_4 : decode cX0_byPath 4 = .ok (.aload_n 1, 1) := by decide +kernel
theorem dX0_byPath_5 : decode cX0_byPath 5 = .ok (.iload_n 3, 1) := by decide +kernel
theorem dX0_byPath_6 : decode cX0_byPath 6 = .ok (.aload_n 0, 1) := by decide +kernel
theorem dX0_byPath_7 : decode cX0_byPath 7 = .ok (.getfield 9, 3) := by decide +kernel
theorem dX0_byPath_10 : decode cX0_byPath 10 = .ok (.iload_n 3, 1) := by decide +kernel
theorem dX0_byPath_11 : decode cX0_byPath 11 = .ok (.iaload, 1) := by decide +kernel
theorem dX0_byPath_12 : decode cX0_byPath 12 = .ok (.invokevirtual 31, 3) := by decide +kernel
theorem dX0_byPath_15 : decode cX0_byPath 15 = .ok (.i2l, 1) := by decide +kernel
theorem dX0_byPath_16 : decode cX0_byPath 16 = .ok (.lsub, 1) := by decide +kernel
theorem dX0_byPath_17 : decode cX0_byPath 17 = .ok (.lstore 4, 2) := by decide +kernel
theorem dX0_byPath_19 : decode cX0_byPath 19 = .ok (.lload 4, 2) := by decide +kernel
theorem dX0_byPath_21 : decode cX0_byPath 21 = .ok (.l2i, 1) := by decide +kernel
theorem dX0_byPath_22 : decode cX0_byPath 22 = .ok (.aload_n 0, 1) := by decide +kernel
theorem dX0_byPath_23 : decode cX0_byPath 23 = .ok (.aload_n 1, 1) := by decide +kernel
theorem dX0_byPath_24 : decode cX0_byPath 24 = .ok (.iload_n 3, 1) := by decide +kernel
theorem dX0_byPath_25 : decode cX0_byPath 25 = .ok (.aload_n 0, 1) := by decide +kernel
theorem dX0_byPath_26 : decode cX0_byPath 26 = .ok (.aload_n 1, 1) := by decide +kernel
theorem dX0_byPath_27 : decode cX0_byPath 27 = .ok (.aload_n 2, 1) := by decide +kernel
theorem dX0_byPath_28 : decode cX0_byPath 28 = .ok (.iload_n 3, 1) := by decide +kernel
theorem dX0_byPath_29 : decode cX0_byPath 29 = .ok (.invokevirtual 49, 3) := by decide +kernel
theorem dX0_byPath_32 : decode cX0_byPath 32 = .ok (.invokevirtual 46, 3) := by decide +kernel
theorem dX0_byPath_35 : decode cX0_byPath 35 = .ok (.isub, 1) := by decide +kernel
theorem dX0_byPath_36 : decode cX0_byPath 36 = .ok (.ireturn, 1) := by decide +kernel
theorem dX0_targetIn_0 : decode cX0_targetIn 0 = .ok (.lload_n 0, 1) := by decide +kernel
theorem dX0_targetIn_1 : decode cX0_targetIn 1 = .ok (.iconst 5, 1) := by decide +kernel
theorem dX0_targetIn_2 : decode cX0_targetIn 2 = .ok (.iload_n 2, 1) := by decide +kernel
theorem dX0_targetIn_3 : decode cX0_targetIn 3 = .ok (.iconst 1, 1) := by decide +kernel
theorem dX0_targetIn_4 : decode cX0_targetIn 4 = .ok (.isub, 1) := by decide +kernel
theorem dX0_targetIn_5 : decode cX0_targetIn 5 = .ok (.imul, 1) := by decide +kernel
theorem dX0_targetIn_6 : decode cX0_targetIn 6 = .ok (.lushr, 1) := by decide +kernel
theorem dX0_targetIn_7 : decode cX0_targetIn 7 = .ok (.l2i, 1) := by decide +kernel
theorem dX0_targetIn_8 : decode cX0_targetIn 8 = .ok (.bipush 7, 2) := by decide +kernel
theorem dX0_targetIn_10 : decode cX0_targetIn 10 = .ok (.iand, 1) := by decide +kernel
theorem dX0_targetIn_11 : decode cX0_targetIn 11 = .ok (.ireturn, 1) := by decide +kernel
theorem dX0_pathIn_0 : decode cX0_pathIn 0 = .ok (.lload_n 0, 1) := by decide +kernel
theorem dX0_pathIn_1 : decode cX0_pathIn 1 = .ok (.iconst 5, 1) := by decide +kernel
theorem dX0_pathIn_2 : decode cX0_pathIn 2 = .ok (.iload_n 2, 1) := by decide +kernel
theorem dX0_pathIn_3 : decode cX0_pathIn 3 = .ok (.iconst 1, 1) := by decide +kernel
theorem dX0_pathIn_4 : decode cX0_pathIn 4 = .ok (.isub, 1) := by decide +kernel
theorem dX0_pathIn_5 : decode cX0_pathIn 5 = .ok (.imul, 1) := by decide +kernel
theorem dX0_pathIn_6 : decode cX0_pathIn 6 = .ok (.iconst 3, 1) := by decide +kernel
theorem dX0_pathIn_7 : decode cX0_pathIn 7 = .ok (.iadd, 1) := by decide +kernel
theorem dX0_pathIn_8 : decode cX0_pathIn 8 = .ok (.lushr, 1) := by decide +kernel
theorem dX0_pathIn_9 : decode cX0_pathIn 9 = .ok (.l2i, 1) := by decide +kernel
theorem dX0_pathIn_10 : decode cX0_pathIn 10 = .ok (.iconst 3, 1) := by decide +kernel
theorem dX0_pathIn_11 : decode cX0_pathIn 11 = .ok (.iand, 1) := by decide +kernel
theorem dX0_pathIn_12 : decode cX0_pathIn 12 = .ok (.ireturn, 1) := by decide +kernel
set_option maxRecDepth 20000 in
theorem ggX0_followsTree_J7_fill_53178 : GoodIn wsX0_followsTree wsJ7_fill_53178 := goodIn_r _ [7] (by decide +kernel) (by decide +kernel)
set_option maxRecDepth 20000 in
theorem gX0_followsTree_J7_fill_53178 : GoodIn wsX0_followsTree (va_wsS RX0 15 yJ7_fill_53178 wsJ7_fill_53178) := goodIn_app (goodIn_of _ (by decide +kernel)) ggX0_followsTree_J7_fill_53178
set_option maxRecDepth 20000 in
theorem ggX0_followsTree_X0_pathIn : GoodIn wsX0_followsTree wsX0_pathIn := goodIn_r _ [11] (by decide +kernel) (by decide +kernel)
set_option maxRecDepth 20000 in
theorem gX0_followsTree_X0_pathIn : GoodIn wsX0_followsTree (va_wsS RX0 53 yX0_pathIn wsX0_pathIn) := goodIn_app (goodIn_of _ (by decide +kernel)) ggX0_followsTree_X0_pathIn
set_option maxRecDepth 20000 in
theorem ggX0_followsTree_X0_targetIn : GoodIn wsX0_followsTree wsX0_targetIn := goodIn_r _ [14] (by decide +kernel) (by decide +kernel)
set_option maxRecDepth 20000 in
theorem gX0_followsTree_X0_targetIn : GoodIn wsX0_followsTree (va_wsS RX0 57 yX0_targetIn wsX0_targetIn) := goodIn_app (goodIn_of _ (by decide +kernel)) ggX0_followsTree_X0_targetIn
set_option maxRecDepth 20000 in
theorem ggX0_followsTree_X0_allHaveRounds : GoodIn wsX0_followsTree wsX0_allHaveRounds := goodIn_r _ [18, 2, 1, 20, 21, 22, 23, 19] (by decide +kernel) (by decide +kernel)
set_option maxRecDepth 20000 in
theorem gX0_followsTree_X0_allHaveRounds : GoodIn wsX0_followsTree (wsV RX0 35 RX0 yX0_allHaveRounds wsX0_allHaveRounds) := goodIn_app (goodIn_of _ (by decide +kernel)) ggX0_followsTree_X0_allHaveRounds
theorem dX0_followsTree_0 : decode cX0_followsTree 0 = .ok (.aload_n 0, 1) := by decide +kernel
theorem dX0_followsTree_1 : decode cX0_followsTree 1 = .ok (.getfield 9, 3) := by decide +kernel
theorem dX0_followsTree_4 : decode cX0_followsTree 4 = .ok (.iconst (-1), 1) := by decide +kernel
theorem dX0_followsTree_5 : decode cX0_followsTree 5 = .ok (.invokestatic 15, 3) := by decide +kernel
theorem dX0_followsTree_8 : decode cX0_followsTree 8 = .ok (.aload_n 0, 1) := by decide +kernel
theorem dX0_followsTree_9 : decode cX0_followsTree 9 = .ok (.getfield 9, 3) := by decide +kernel
theorem dX0_followsTree_12 : decode cX0_followsTree 12 = .ok (.iconst 0, 1) := by decide +kernel
theorem dX0_followsTree_13 : decode cX0_followsTree 13 = .ok (.iconst 0, 1) := by decide +kernel
theorem dX0_followsTree_14 : decode cX0_followsTree 14 = .ok (.iastore, 1) := by decide +kernel
theorem dX0_followsTree_15 : decode cX0_followsTree 15 = .ok (.iconst 1, 1) := by decide +kernel
theorem dX0_followsTree_16 : decode cX0_followsTree 16 = .ok (.istore 4, 2) := by decide +kernel
theorem dX0_followsTree_18 : decode cX0_followsTree 18 = .ok (.iload 4, 2) := by decide +kernel
theorem dX0_followsTree_20 : decode cX0_followsTree 20 = .ok (.aload_n 1, 1) := by decide +kernel
theorem dX0_followsTree_21 : decode cX0_followsTree 21 = .ok (.getfield 27, 3) := by decide +kernel
theorem dX0_followsTree_24 : decode cX0_followsTree 24 = .ok (.if_icmp .ge 34, 3) := by decide +kernel
theorem dX0_followsTree_27 : decode cX0_followsTree 27 = .ok (.lload_n 2, 1) := by decide +kernel
theorem dX0_followsTree_28 : decode cX0_followsTree 28 = .ok (.iload 4, 2) := by decide +kernel
theorem dX0_followsTree_30 : decode cX0_followsTree 30 = .ok (.invokestatic 53, 3) := by decide +kernel
theorem dX0_followsTree_33 : decode cX0_followsTree 33 = .ok (.aload_n 1, 1) := by decide +kernel
theorem dX0_followsTree_34 : decode cX0_followsTree 34 = .ok (.getfield 42, 3) := by decide +kernel
theorem dX0_followsTree_37 : decode cX0_followsTree 37 = .ok (.iload 4, 2) := by decide +kernel
theorem dX0_followsTree_39 : decode cX0_followsTree 39 = .ok (.aaload, 1) := by decide +kernel
theorem dX0_followsTree_40 : decode cX0_followsTree 40 = .ok (.lload_n 2, 1) := by decide +kernel
theorem dX0_followsTree_41 : decode cX0_followsTree 41 = .ok (.iload 4, 2) := by decide +kernel
theorem dX0_followsTree_43 : decode cX0_followsTree 43 = .ok (.invokestatic 57, 3) := by decide +kernel
theorem dX0_followsTree_46 : decode cX0_followsTree 46 = .ok (.iaload, 1) := by decide +kernel
theorem dX0_followsTree_47 : decode cX0_followsTree 47 = .ok (.if_icmp .lt 5, 3) := by decide +kernel
theorem dX0_followsTree_50 : decode cX0_followsTree 50 = .ok (.iconst 0, 1) := by decide +kernel
theorem dX0_followsTree_51 : decode cX0_followsTree 51 = .ok (.ireturn, 1) := by decide +kernel
theorem dX0_followsTree_52 : decode cX0_followsTree 52 = .ok (.iinc 4 1, 3) := by decide +kernel
theorem dX0_followsTree_55 : decode cX0_followsTree 55 = .ok (.goto (-37), 3) := by decide +kernel
theorem dX0_followsTree_58 : decode cX0_followsTree 58 = .ok (.iconst 1, 1) := by decide +kernel
theorem dX0_followsTree_59 : decode cX0_followsTree 59 = .ok (.istore 4, 2) := by decide +kernel
theorem dX0_followsTree_61 : decode cX0_followsTree 61 = .ok (.iload 4, 2) := by decide +kernel
theorem dX0_followsTree_63 : decode cX0_followsTree 63 = .ok (.aload_n 1, 1) := by decide +kernel
theorem dX0_followsTree_64 : decode cX0_followsTree 64 = .ok (.getfield 27, 3) := by decide +kernel
theorem dX0_followsTree_67 : decode cX0_followsTree 67 = .ok (.if_icmp .ge 54, 3) := by decide +kernel
theorem dX0_followsTree_70 : decode cX0_followsTree 70 = .ok (.iconst 1, 1) := by decide +kernel
theorem dX0_followsTree_71 : decode cX0_followsTree 71 = .ok (.istore 5, 2) := by decide +kernel
theorem dX0_followsTree_73 : decode cX0_followsTree 73 = .ok (.iload 5, 2) := by decide +kernel
theorem dX0_followsTree_75 : decode cX0_followsTree 75 = .ok (.aload_n 1, 1) := by decide +kernel
theorem dX0_followsTree_76 : decode cX0_followsTree 76 = .ok (.getfield 27, 3) := by decide +kernel
theorem dX0_followsTree_79 : decode cX0_followsTree 79 = .ok (.if_icmp .ge 36, 3) := by decide +kernel
theorem dX0_followsTree_82 : decode cX0_followsTree 82 = .ok (.aload_n 0, 1) := by decide +kernel
theorem dX0_followsTree_83 : decode cX0_followsTree 83 = .ok (.getfield 9, 3) := by decide +kernel
theorem dX0_followsTree_86 : decode cX0_followsTree 86 = .ok (.lload_n 2, 1) := by decide +kernel
theorem dX0_followsTree_87 : decode cX0_followsTree 87 = .ok (.iload 5, 2) := by decide +kernel
theorem dX0_followsTree_89 : decode cX0_followsTree 89 = .ok (.invokestatic 57, 3) := by decide +kernel
theorem dX0_followsTree_92 : decode cX0_followsTree 92 = .ok (.iaload, 1) := by decide +kernel
theorem dX0_followsTree_93 : decode cX0_followsTree 93 = .ok (.iload 4, 2) := by decide +kernel
theorem dX0_followsTree_95 : decode cX0_followsTree 95 = .ok (.iconst 1, 1) := by decide +kernel
theorem dX0_followsTree_96 : decode cX0_followsTree 96 = .ok (.isub, 1) := by decide +kernel
theorem dX0_followsTree_97 : decode cX0_followsTree 97 = .ok (.if_icmp .ne 12, 3) := by decide +kernel
theorem dX0_followsTree_100 : decode cX0_followsTree 100 = .ok (.aload_n 0, 1) := by decide +kernel
theorem dX0_followsTree_101 : decode cX0_followsTree 101 = .ok (.getfield 9, 3) := by decide +kernel
theorem dX0_followsTree_104 : decode cX0_followsTree 104 = .ok (.iload 5, 2) := by decide +kernel
theorem dX0_followsTree_106 : decode cX0_followsTree 106 = .ok (.iload 4, 2) := by decide +kernel
theorem dX0_followsTree_108 : decode cX0_followsTree 108 = .ok (.iastore, 1) := by decide +kernel
theorem dX0_followsTree_109 : decode cX0_followsTree 109 = .ok (.iinc 5 1, 3) := by decide +kernel
theorem dX0_followsTree_112 : decode cX0_followsTree 112 = .ok (.goto (-39), 3) := by decide +kernel
theorem dX0_followsTree_115 : decode cX0_followsTree 115 = .ok (.iinc 4 1, 3) := by decide +kernel
theorem dX0_followsTree_118 : decode cX0_followsTree 118 = .ok (.goto (-57), 3) := by decide +kernel
theorem dX0_followsTree_121 : decode cX0_followsTree 121 = .ok (.aload_n 0, 1) := by decide +kernel
theorem dX0_followsTree_122 : decode cX0_followsTree 122 = .ok (.aload_n 1, 1) := by decide +kernel
theorem dX0_followsTree_123 : decode cX0_followsTree 123 = .ok (.invokevirtual 35, 3) := by decide +kernel
theorem dX0_followsTree_126 : decode cX0_followsTree 126 = .ok (.ireturn, 1) := by decide +kernel
set_option maxRecDepth 20000 in
theorem ggX0_grainsByTree_X0_targetIn : GoodIn wsX0_grainsByTree wsX0_targetIn := goodIn_r _ [5] (by decide +kernel) (by decide +kernel)
set_option maxRecDepth 20000 in
theorem gX0_grainsByTree_X0_targetIn : GoodIn wsX0_grainsByTree (va_wsS RX0 57 yX0_targetIn wsX0_targetIn) := goodIn_app (goodIn_of _ (by decide +kernel)) ggX0_grainsByTree_X0_targetIn
set_option maxRecDepth 20000 in
theorem ggX0_grainsByTree_X0_pathsBack : GoodIn wsX0_grainsByTree wsX0_pathsBack := goodIn_r _ [9, 1, 10, 20, 21, 22, 23, 24] (by decide +kernel) (by decide +kernel)
set_option maxRecDepth 20000 in
theorem gX0_grainsByTree_X0_pathsBack : GoodIn wsX0_grainsByTree (wsV RX0 46 RX0 yX0_pathsBack wsX0_pathsBack) := goodIn_app (goodIn_of _ (by decide +kernel)) ggX0_grainsByTree_X0_pathsBack
set_option maxRecDepth 20000 in
theorem ggX0_grainsByTree_X0_pathIn : GoodIn wsX0_grainsByTree wsX0_pathIn := goodIn_r _ [13] (by decide +kernel) (by decide +kernel)
set_option maxRecDepth 20000 in
theorem gX0_grainsByTree_X0_pathIn : GoodIn wsX0_grainsByTree (va_wsS RX0 53 yX0_pathIn wsX0_pathIn) := goodIn_app (goodIn_of _ (by decide +kernel)) ggX0_grainsByTree_X0_pathIn
set_option maxRecDepth 20000 in
theorem ggX0_grainsByTree_X0_leastToBurn : GoodIn wsX0_grainsByTree wsX0_leastToBurn := goodIn_r _ [17, 18, 19, 1, 10, 21, 22, 23, 24, 20] (by decide +kernel) (by decide +kernel)
set_option maxRecDepth 20000 in
theorem gX0_grainsByTree_X0_leastToBurn : GoodIn wsX0_grainsByTree (wsV RX0 31 RX0 yX0_leastToBurn wsX0_leastToBurn) := goodIn_app (goodIn_of _ (by decide +kernel)) ggX0_grainsByTree_X0_leastToBurn
theorem dX0_grainsByTree_0 : decode cX0_grainsByTree 0 = .ok (.aload_n 0, 1) := by decide +kernel
theorem dX0_grainsByTree_1 : decode cX0_grainsByTree 1 = .ok (.aload_n 1, 1) := by decide +kernel
theorem dX0_grainsByTree_2 : decode cX0_grainsByTree 2 = .ok (.iload 4, 2) := by decide +kernel
theorem dX0_grainsByTree_4 : decode cX0_grainsByTree 4 = .ok (.lload_n 2, 1) := by decide +kernel
theorem dX0_grainsByTree_5 : decode cX0_grainsByTree 5 = .ok (.iload 4, 2) := by decide +kernel
theorem dX0_grainsByTree_7 : decode cX0_grainsByTree 7 = .ok (.invokestatic 57, 3) := by decide +kernel
theorem dX0_grainsByTree_10 : decode cX0_grainsByTree 10 = .ok (.invokevirtual 46, 3) := by decide +kernel
theorem dX0_grainsByTree_13 : decode cX0_grainsByTree 13 = .ok (.lload_n 2, 1) := by decide +kernel
theorem dX0_grainsByTree_14 : decode cX0_grainsByTree 14 = .ok (.iload 4, 2) := by decide +kernel
theorem dX0_grainsByTree_16 : decode cX0_grainsByTree 16 = .ok (.invokestatic 53, 3) := by decide +kernel
theorem dX0_grainsByTree_19 : decode cX0_grainsByTree 19 = .ok (.iadd, 1) := by decide +kernel
theorem dX0_grainsByTree_20 : decode cX0_grainsByTree 20 = .ok (.istore 5, 2) := by decide +kernel
theorem dX0_grainsByTree_22 : decode cX0_grainsByTree 22 = .ok (.aload_n 0, 1) := by decide +kernel
theorem dX0_grainsByTree_23 : decode cX0_grainsByTree 23 = .ok (.aload_n 1, 1) := by decide +kernel
theorem dX0_grainsByTree_24 : decode cX0_grainsByTree 24 = .ok (.iload 4, 2) := by decide +kernel
theorem dX0_grainsByTree_26 : decode cX0_grainsByTree 26 = .ok (.aload_n 0, 1) := by decide +kernel
theorem dX0_grainsByTree_27 : decode cX0_grainsByTree 27 = .ok (.getfield 9, 3) := by decide +kernel
theorem dX0_grainsByTree_30 : decode cX0_grainsByTree 30 = .ok (.iload 4, 2) := by decide +kernel
theorem dX0_grainsByTree_32 : decode cX0_grainsByTree 32 = .ok (.iaload, 1) := by decide +kernel
theorem dX0_grainsByTree_33 : decode cX0_grainsByTree 33 = .ok (.invokevirtual 31, 3) := by decide +kernel
theorem dX0_grainsByTree_36 : decode cX0_grainsByTree 36 = .ok (.iload 5, 2) := by decide +kernel
theorem dX0_grainsByTree_38 : decode cX0_grainsByTree 38 = .ok (.iadd, 1) := by decide +kernel
theorem dX0_grainsByTree_39 : decode cX0_grainsByTree 39 = .ok (.ireturn, 1) := by decide +kernel
theorem dX1_init_0 : decode cX1_init 0 = .ok (.aload_n 0, 1) := by decide +kernel
theorem dX1_init_1 : decode cX1_init 1 = .ok (.invokespecial 3, 3) := by decide +kernel
theorem dX1_init_4 : decode cX1_init 4 = .ok (.aload_n 0, 1) := by decide +kernel
theorem dX1_init_5 : decode cX1_init 5 = .ok (.aload_n 1, 1) := by decide +kernel
theorem dX1_init_6 : decode cX1_init 6 = .ok (.putfield 9, 3) := by decide +kernel
theorem dX1_init_9 : decode cX1_init 9 = .ok (.aload_n 0, 1) := by decide +kernel
theorem dX1_init_10 : decode cX1_init 10 = .ok (.bipush 8, 2) := by decide +kernel
theorem dX1_init_12 : decode cX1_init 12 = .ok (.newarray .long, 2) := by decide +kernel
theorem dX1_init_14 : decode cX1_init 14 = .ok (.putfield 15, 3) := by decide +kernel
theorem dX1_init_17 : decode cX1_init 17 = .ok (.aload_n 0, 1) := by decide +kernel
theorem dX1_init_18 : decode cX1_init 18 = .ok (.bipush 8, 2) := by decide +kernel
theorem dX1_init_20 : decode cX1_init 20 = .ok (.newarray .long, 2) := by decide +kernel
theorem dX1_init_22 : decode cX1_init 22 = .ok (.putfield 19, 3) := by decide +kernel
theorem dX1_init_25 : decode cX1_init 25 = .ok (.return_, 1) := by decide +kernel
set_option maxRecDepth 20000 in
theorem ggX1_calm_X4_calm : GoodIn wsX1_calm wsX4_calm := goodIn_r _ [8, 9, 10, 11, 12, 13, 14, 15, 16, 17, 7, 18, 19, 20, 21, 22, 23, 24, 28, 29, 30, 31] (by decide +kernel) (by decide +kernel)
set_option maxRecDepth 20000 in
theorem gX1_calm_X4_calm : GoodIn wsX1_calm (wsV RX1 22 RX4 yX4_calm wsX4_calm) := goodIn_app (goodIn_of _ (by decide +kernel)) ggX1_calm_X4_calm
theorem dX1_calm_0 : decode cX1_calm 0 = .ok (.aload_n 0, 1) := by decide +kernel
theorem dX1_calm_1 : decode cX1_calm 1 = .ok (.getfield 9, 3) := by decide +kernel
theorem dX1_calm_4 : decode cX1_calm 4 = .ok (.aload_n 0, 1) := by decide +kernel
theorem dX1_calm_5 : decode cX1_calm 5 = .ok (.getfield 15, 3) := by decide +kernel
theorem dX1_calm_8 : decode cX1_calm 8 = .ok (.aload_n 0, 1) := by decide +kernel
theorem dX1_calm_9 : decode cX1_calm 9 = .ok (.getfield 19, 3) := by decide +kernel
theorem dX1_calm_12 : decode cX1_calm 12 = .ok (.invokevirtual 22, 3) := by decide +kernel
theorem dX1_calm_15 : decode cX1_calm 15 = .ok (.lreturn, 1) := by decide +kernel
theorem dX1_take_0 : decode cX1_take 0 = .ok (.iconst 1, 1) := by decide +kernel
theorem dX1_take_1 : decode cX1_take 1 = .ok (.istore_n 2, 1) := by decide +kernel
theorem dX1_take_2 : decode cX1_take 2 = .ok (.iload_n 2, 1) := by decide +kernel
theorem dX1_take_3 : decode cX1_take 3 = .ok (.aload_n 0, 1) := by decide +kernel
theorem dX1_take_4 : decode cX1_take 4 = .ok (.getfield 9, 3) := by decide +kernel
theorem dX1_take_7 : decode cX1_take 7 = .ok (.getfield 28, 3) := by decide +kernel
theorem dX1_take_10 : decode cX1_take 10 = .ok (.if_icmp .ge 18, 3) := by decide +kernel
theorem dX1_take_13 : decode cX1_take 13 = .ok (.aload_n 0, 1) := by decide +kernel
theorem dX1_take_14 : decode cX1_take 14 = .ok (.getfield 15, 3) := by decide +kernel
theorem dX1_take_17 : decode cX1_take 17 = .ok (.iload_n 2, 1) := by decide +kernel
theorem dX1_take_18 : decode cX1_take 18 = .ok (.aload_n 1, 1) := by decide +kernel
theorem dX1_take_19 : decode cX1_take 19 = .ok (.iload_n 2, 1) := by decide +kernel
theorem dX1_take_20 : decode cX1_take 20 = .ok (.laload, 1) := by decide +kernel
theorem dX1_take_21 : decode cX1_take 21 = .ok (.lastore, 1) := by decide +kernel
theorem dX1_take_22 : decode cX1_take 22 = .ok (.iinc 2 1, 3) := by decide +kernel
theorem dX1_take_25 : decode cX1_take 25 = .ok (.goto (-23), 3) := by decide +kernel
theorem dX1_take_28 : decode cX1_take 28 = .ok (.return_, 1) := by decide +kernel
theorem dX4_init_0 : decode cX4_init 0 = .ok (.aload_n 0, 1) := by decide +kernel
theorem dX4_init_1 : decode cX4_init 1 = .ok (.invokespecial 3, 3) := by decide +kernel
theorem dX4_init_4 : decode cX4_init 4 = .ok (.aload_n 0, 1) := by decide +kernel
theorem dX4_init_5 : decode cX4_init 5 = .ok (.iload_n 1, 1) := by decide +kernel
theorem dX4_init_6 : decode cX4_init 6 = .ok (.putfield 9, 3) := by decide +kernel
theorem dX4_init_9 : decode cX4_init 9 = .ok (.aload_n 0, 1) := by decide +kernel
theorem dX4_init_10 : decode cX4_init 10 = .ok (.bipush 8, 2) := by decide +kernel
theorem dX4_init_12 : decode cX4_init 12 = .ok (.bipush 8, 2) := by decide +kernel
theorem dX4_init_14 : decode cX4_init 14 = .ok (.multianewarray 15 2, 4) := by decide +kernel
theorem dX4_init_18 : decode cX4_init 18 = .ok (.putfield 17, 3) := by decide +kernel
theorem dX4_init_21 : decode cX4_init 21 = .ok (.aload_n 0, 1) := by decide +kernel
theorem dX4_init_22 : decode cX4_init 22 = .ok (.bipush 8, 2) := by decide +kernel
theorem dX4_init_24 : decode cX4_init 24 = .ok (.newarray .int, 2) := by decide +kernel
theorem dX4_init_26 : decode cX4_init 26 = .ok (.putfield 20, 3) := by decide +kernel
theorem dX4_init_29 : decode cX4_init 29 = .ok (.aload_n 0, 1) := by decide +kernel
theorem dX4_init_30 : decode cX4_init 30 = .ok (.iconst 0, 1) := by decide +kernel
theorem dX4_init_31 : decode cX4_init 31 = .ok (.putfield 24, 3) := by decide +kernel
theorem dX4_init_34 : decode cX4_init 34 = .ok (.return_, 1) := by decide +kernel
theorem dX4_lay_0 : decode cX4_lay 0 = .ok (.aload_n 0, 1) := by decide +kernel
theorem dX4_lay_1 : decode cX4_lay 1 = .ok (.getfield 17, 3) := by decide +kernel
theorem dX4_lay_4 : decode cX4_lay 4 = .ok (.iload_n 1, 1) := by decide +kernel
theorem dX4_lay_5 : decode cX4_lay 5 = .ok (.aaload, 1) := by decide +kernel
theorem dX4_lay_6 : decode cX4_lay 6 = .ok (.iload_n 2, 1) := by decide +kernel
theorem dX4_lay_7 : decode cX4_lay 7 = .ok (.iaload, 1) := by decide +kernel
theorem dX4_lay_8 : decode cX4_lay 8 = .ok (.istore 4, 2) := by decide +kernel
theorem dX4_lay_10 : decode cX4_lay 10 = .ok (.aload_n 0, 1) := by decide +kernel
theorem dX4_lay_11 : decode cX4_lay 11 = .ok (.getfield 17, 3) := by decide +kernel
theorem dX4_lay_14 : decode cX4_lay 14 = .ok (.iload_n 1, 1) := by decide +kernel
theorem dX4_lay_15 : decode cX4_lay 15 = .ok (.aaload, 1) := by decide +kernel
theorem dX4_lay_16 : decode cX4_lay 16 = .ok (.iload_n 2, 1) := by decide +kernel
theorem dX4_lay_17 : decode cX4_lay 17 = .ok (.iload_n 3, 1) := by decide +kernel
theorem dX4_lay_18 : decode cX4_lay 18 = .ok (.iastore, 1) := by decide +kernel
theorem dX4_lay_19 : decode cX4_lay 19 = .ok (.aload_n 0, 1) := by decide +kernel
theorem dX4_lay_20 : decode cX4_lay 20 = .ok (.getfield 17, 3) := by decide +kernel
theorem dX4_lay_23 : decode cX4_lay 23 = .ok (.iload_n 2, 1) := by decide +kernel
theorem dX4_lay_24 : decode cX4_lay 24 = .ok (.aaload, 1) := by decide +kernel
theorem dX4_lay_25 : decode cX4_lay 25 = .ok (.iload_n 1, 1) := by decide +kernel
theorem dX4_lay_26 : decode cX4_lay 26 = .ok (.iload_n 3, 1) := by decide +kernel
theorem dX4_lay_27 : decode cX4_lay 27 = .ok (.iastore, 1) := by decide +kernel
theorem dX4_lay_28 : decode cX4_lay 28 = .ok (.aload_n 0, 1) := by decide +kernel
theorem dX4_lay_29 : decode cX4_lay 29 = .ok (.getfield 20, 3) := by decide +kernel
theorem dX4_lay_32 : decode cX4_lay 32 = .ok (.iload_n 1, 1) := by decide +kernel
theorem dX4_lay_33 : decode cX4_lay 33 = .ok (.dup2, 1) := by decide +kernel
theorem dX4_lay_34 : decode cX4_lay 34 = .ok (.iaload, 1) := by decide +kernel
theorem dX4_lay_35 : decode cX4_lay 35 = .ok (.iload_n 3, 1) := by decide +kernel
theorem dX4_lay_36 : decode cX4_lay 36 = .ok (.iload 4, 2) := by decide +kernel
theorem dX4_lay_38 : decode cX4_lay 38 = .ok (.isub, 1) := by decide +kernel
theorem dX4_lay_39 : decode cX4_lay 39 = .ok (.iadd, 1) := by decide +kernel
theorem dX4_lay_40 : decode cX4_lay 40 = .ok (.iastore, 1) := by decide +kernel
theorem dX4_lay_41 : decode cX4_lay 41 = .ok (.aload_n 0, 1) := by decide +kernel
theorem dX4_lay_42 : decode cX4_lay 42 = .ok (.getfield 20, 3) := by decide +kernel
theorem dX4_lay_45 : decode cX4_lay 45 = .ok (.iload_n 2, 1) := by decide +kernel
theorem dX4_lay_46 : decode cX4_lay 46 = .ok (.dup2, 1) := by decide +kernel
theorem dX4_lay_47 : decode cX4_lay 47 = .ok (.iaload, 1) := by decide +kernel
theorem dX4_lay_48 : decode cX4_lay 48 = .ok (.iload_n 3, 1) := by decide +kernel
theorem dX4_lay_49 : decode cX4_lay 49 = .ok (.iload 4, 2) := by decide +kernel
theorem dX4_lay_51 : decode cX4_lay 51 = .ok (.isub, 1) := by decide +kernel
theorem dX4_lay_52 : decode cX4_lay 52 = .ok (.iadd, 1) := by decide +kernel
theorem dX4_lay_53 : decode cX4_lay 53 = .ok (.iastore, 1) := by decide +kernel
theorem dX4_lay_54 : decode cX4_lay 54 = .ok (.iload 4, 2) := by decide +kernel
theorem dX4_lay_56 : decode cX4_lay 56 = .ok (.ireturn, 1) := by decide +kernel
set_option maxRecDepth 20000 in
theorem ggX4_isJoined_X4_touches : GoodIn wsX4_isJoined wsX4_touches := goodIn_r _ [6, 1, 7, 8, 9, 10, 11] (by decide +kernel) (by decide +kernel)
set_option maxRecDepth 20000 in
theorem gX4_isJoined_X4_touches : GoodIn wsX4_isJoined (wsV RX4 28 RX4 yX4_touches wsX4_touches) := goodIn_app (goodIn_of _ (by decide +kernel)) ggX4_isJoined_X4_touches
theorem dX4_isJoined_0 : decode cX4_isJoined 0 = .ok (.iconst 1, 1) := by decide +kernel
theorem dX4_isJoined_1 : decode cX4_isJoined 1 = .ok (.istore_n 1, 1) := by decide +kernel
theorem dX4_isJoined_2 : decode cX4_isJoined 2 = .ok (.iconst 1, 1) := by decide +kernel
theorem dX4_isJoined_3 : decode cX4_isJoined 3 = .ok (.istore_n 2, 1) := by decide +kernel
theorem dX4_isJoined_4 : decode cX4_isJoined 4 = .ok (.iload_n 2, 1) := by decide +kernel
theorem dX4_isJoined_5 : decode cX4_isJoined 5 = .ok (.aload_n 0, 1) := by decide +kernel
theorem dX4_isJoined_6 : decode cX4_isJoined 6 = .ok (.getfield 9, 3) := by decide +kernel
theorem dX4_isJoined_9 : decode cX4_isJoined 9 = .ok (.if_icmp .ge 40, 3) := by decide +kernel
theorem dX4_isJoined_12 : decode cX4_isJoined 12 = .ok (.iconst 1, 1) := by decide +kernel
theorem dX4_isJoined_13 : decode cX4_isJoined 13 = .ok (.istore_n 3, 1) := by decide +kernel
theorem dX4_isJoined_14 : decode cX4_isJoined 14 = .ok (.iload_n 3, 1) := by decide +kernel
theorem dX4_isJoined_15 : decode cX4_isJoined 15 = .ok (.aload_n 0, 1) := by decide +kernel
theorem dX4_isJoined_16 : decode cX4_isJoined 16 = .ok (.getfield 9, 3) := by decide +kernel
theorem dX4_isJoined_19 : decode cX4_isJoined 19 = .ok (.if_icmp .ge 24, 3) := by decide +kernel
theorem dX4_isJoined_22 : decode cX4_isJoined 22 = .ok (.aload_n 0, 1) := by decide +kernel
theorem dX4_isJoined_23 : decode cX4_isJoined 23 = .ok (.iload_n 3, 1) := by decide +kernel
theorem dX4_isJoined_24 : decode cX4_isJoined 24 = .ok (.iload_n 1, 1) := by decide +kernel
theorem dX4_isJoined_25 : decode cX4_isJoined 25 = .ok (.invokevirtual 28, 3) := by decide +kernel
theorem dX4_isJoined_28 : decode cX4_isJoined 28 = .ok (.ifCond .eq 9, 3) := by decide +kernel
theorem dX4_isJoined_31 : decode cX4_isJoined 31 = .ok (.iload_n 1, 1) := by decide +kernel
theorem dX4_isJoined_32 : decode cX4_isJoined 32 = .ok (.iconst 1, 1) := by decide +kernel
theorem dX4_isJoined_33 : decode cX4_isJoined 33 = .ok (.iload_n 3, 1) := by decide +kernel
theorem dX4_isJoined_34 : decode cX4_isJoined 34 = .ok (.ishl, 1) := by decide +kernel
theorem dX4_isJoined_35 : decode cX4_isJoined 35 = .ok (.ior, 1) := by decide +kernel
theorem dX4_isJoined_36 : decode cX4_isJoined 36 = .ok (.istore_n 1, 1) := by decide +kernel
theorem dX4_isJoined_37 : decode cX4_isJoined 37 = .ok (.iinc 3 1, 3) := by decide +kernel
theorem dX4_isJoined_40 : decode cX4_isJoined 40 = .ok (.goto (-26), 3) := by decide +kernel
theorem dX4_isJoined_43 : decode cX4_isJoined 43 = .ok (.iinc 2 1, 3) := by decide +kernel
theorem dX4_isJoined_46 : decode cX4_isJoined 46 = .ok (.goto (-42), 3) := by decide +kernel
theorem dX4_isJoined_49 : decode cX4_isJoined 49 = .ok (.iload_n 1, 1) := by decide +kernel
theorem dX4_isJoined_50 : decode cX4_isJoined 50 = .ok (.iconst 1, 1) := by decide +kernel
theorem dX4_isJoined_51 : decode cX4_isJoined 51 = .ok (.aload_n 0, 1) := by decide +kernel
theorem dX4_isJoined_52 : decode cX4_isJoined 52 = .ok (.getfield 9, 3) := by decide +kernel
theorem dX4_isJoined_55 : decode cX4_isJoined 55 = .ok (.ishl, 1) := by decide +kernel
theorem dX4_isJoined_56 : decode cX4_isJoined 56 = .ok (.iconst 1, 1) := by decide +kernel
theorem dX4_isJoined_57 : decode cX4_isJoined 57 = .ok (.isub, 1) := by decide +kernel
theorem dX4_isJoined_58 : decode cX4_isJoined 58 = .ok (.if_icmp .ne 7, 3) := by decide +kernel
theorem dX4_isJoined_61 : decode cX4_isJoined 61 = .ok (.iconst 1, 1) := by decide +kernel
theorem dX4_isJoined_62 : decode cX4_isJoined 62 = .ok (.goto 4, 3) := by decide +kernel
theorem dX4_isJoined_65 : decode cX4_isJoined 65 = .ok (.iconst 0, 1) := by decide +kernel
theorem dX4_isJoined_66 : decode cX4_isJoined 66 = .ok (.ireturn, 1) := by decide +kernel
theorem dX4_touches_0 : decode cX4_touches 0 = .ok (.iconst 0, 1) := by decide +kernel
theorem dX4_touches_1 : decode cX4_touches 1 = .ok (.istore_n 3, 1) := by decide +kernel
theorem dX4_touches_2 : decode cX4_touches 2 = .ok (.iload_n 3, 1) := by decide +kernel
theorem dX4_touches_3 : decode cX4_touches 3 = .ok (.aload_n 0, 1) := by decide +kernel
theorem dX4_touches_4 : decode cX4_touches 4 = .ok (.getfield 9, 3) := by decide +kernel
theorem dX4_touches_7 : decode cX4_touches 7 = .ok (.if_icmp .ge 31, 3) := by decide +kernel
theorem dX4_touches_10 : decode cX4_touches 10 = .ok (.iload_n 2, 1) := by decide +kernel
theorem dX4_touches_11 : decode cX4_touches 11 = .ok (.iload_n 3, 1) := by decide +kernel
theorem dX4_touches_12 : decode cX4_touches 12 = .ok (.ishr, 1) := by decide +kernel
theorem dX4_touches_13 : decode cX4_touches 13 = .ok (.iconst 1, 1) := by decide +kernel
theorem dX4_touches_14 : decode cX4_touches 14 = .ok (.iand, 1) := by decide +kernel
theorem dX4_touches_15 : decode cX4_touches 15 = .ok (.iconst 1, 1) := by decide +kernel
theorem dX4_touches_16 : decode cX4_touches 16 = .ok (.if_icmp .ne 16, 3) := by decide +kernel
theorem dX4_touches_19 : decode cX4_touches 19 = .ok (.aload_n 0, 1) := by decide +kernel
theorem dX4_touches_20 : decode cX4_touches 20 = .ok (.getfield 17, 3) := by decide +kernel
theorem dX4_touches_23 : decode cX4_touches 23 = .ok (.iload_n 1, 1) := by decide +kernel
theorem dX4_touches_24 : decode cX4_touches 24 = .ok (.aaload, 1) := by decide +kernel
theorem dX4_touches_25 : decode cX4_touches 25 = .ok (.iload_n 3, 1) := by decide +kernel
theorem dX4_touches_26 : decode cX4_touches 26 = .ok (.iaload, 1) := by decide +kernel
theorem dX4_touches_27 : decode cX4_touches 27 = .ok (.ifCond .le 5, 3) := by decide +kernel
theorem dX4_touches_30 : decode cX4_touches 30 = .ok (.iconst 1, 1) := by decide +kernel
theorem dX4_touches_31 : decode cX4_touches 31 = .ok (.ireturn, 1) := by decide +kernel
theorem dX4_touches_32 : decode cX4_touches 32 = .ok (.iinc 3 1, 3) := by decide +kernel
theorem dX4_touches_35 : decode cX4_touches 35 = .ok (.goto (-33), 3) := by decide +kernel
theorem dX4_touches_38 : decode cX4_touches 38 = .ok (.iconst 0, 1) := by decide +kernel
theorem dX4_touches_39 : decode cX4_touches 39 = .ok (.ireturn, 1) := by decide +kernel
theorem dX4_isCalm_0 : decode cX4_isCalm 0 = .ok (.iconst 1, 1) := by decide +kernel
theorem dX4_isCalm_1 : decode cX4_isCalm 1 = .ok (.istore_n 2, 1) := by decide +kernel
theorem dX4_isCalm_2 : decode cX4_isCalm 2 = .ok (.iload_n 2, 1) := by decide +kernel
theorem dX4_isCalm_3 : decode cX4_isCalm 3 = .ok (.aload_n 0, 1) := by decide +kernel
theorem dX4_isCalm_4 : decode cX4_isCalm 4 = .ok (.getfield 9, 3) := by decide +kernel
theorem dX4_isCalm_7 : decode cX4_isCalm 7 = .ok (.if_icmp .ge 25, 3) := by decide +kernel
theorem dX4_isCalm_10 : decode cX4_isCalm 10 = .ok (.aload_n 1, 1) := by decide +kernel
theorem dX4_isCalm_11 : decode cX4_isCalm 11 = .ok (.iload_n 2, 1) := by decide +kernel
theorem dX4_isCalm_12 : decode cX4_isCalm 12 = .ok (.laload, 1) := by decide +kernel
theorem dX4_isCalm_13 : decode cX4_isCalm 13 = .ok (.aload_n 0, 1) := by decide +kernel
theorem dX4_isCalm_14 : decode cX4_isCalm 14 = .ok (.getfield 20, 3) := by decide +kernel
theorem dX4_isCalm_17 : decode cX4_isCalm 17 = .ok (.iload_n 2, 1) := by decide +kernel
theorem dX4_isCalm_18 : decode cX4_isCalm 18 = .ok (.iaload, 1) := by decide +kernel
theorem dX4_isCalm_19 : decode cX4_isCalm 19 = .ok (.i2l, 1) := by decide +kernel
theorem dX4_isCalm_20 : decode cX4_isCalm 20 = .ok (.lcmp, 1) := by decide +kernel
theorem dX4_isCalm_21 : decode cX4_isCalm 21 = .ok (.ifCond .lt 5, 3) := by decide +kernel
theorem dX4_isCalm_24 : decode cX4_isCalm 24 = .ok (.iconst 0, 1) := by decide +kernel
theorem dX4_isCalm_25 : decode cX4_isCalm 25 = .ok (.ireturn, 1) := by decide +kernel
theorem dX4_isCalm_26 : decode cX4_isCalm 26 = .ok (.iinc 2 1, 3) := by decide +kernel
theorem dX4_isCalm_29 : decode cX4_isCalm 29 = .ok (.goto (-27), 3) := by decide +kernel
theorem dX4_isCalm_32 : decode cX4_isCalm 32 = .ok (.iconst 1, 1) := by decide +kernel
theorem dX4_isCalm_33 : decode cX4_isCalm 33 = .ok (.ireturn, 1) := by decide +kernel
theorem dX4_fell_0 : decode cX4_fell 0 = .ok (.aload_n 1, 1) := by decide +kernel
theorem dX4_fell_1 : decode cX4_fell 1 = .ok (.iload_n 2, 1) := by decide +kernel
theorem dX4_fell_2 : decode cX4_fell 2 = .ok (.dup2, 1) := by decide +kernel
theorem dX4_fell_3 : decode cX4_fell 3 = .ok (.laload, 1) := by decide +kernel
theorem dX4_fell_4 : decode cX4_fell 4 = .ok (.lload_n 3, 1) := by decide +kernel
theorem dX4_fell_5 : decode cX4_fell 5 = .ok (.aload_n 0, 1) := by decide +kernel
theorem dX4_fell_6 : decode cX4_fell 6 = .ok (.getfield 20, 3) := by decide +kernel
theorem dX4_fell_9 : decode cX4_fell 9 = .ok (.iload_n 2, 1) := by decide +kernel
theorem dX4_fell_10 : decode cX4_fell 10 = .ok (.iaload, 1) := by decide +kernel
theorem dX4_fell_11 : decode cX4_fell 11 = .ok (.i2l, 1) := by decide +kernel
theorem dX4_fell_12 : decode cX4_fell 12 = .ok (.lmul, 1) := by decide +kernel
theorem dX4_fell_13 : decode cX4_fell 13 = .ok (.lsub, 1) := by decide +kernel
theorem dX4_fell_14 : decode cX4_fell 14 = .ok (.lastore, 1) := by decide +kernel
theorem dX4_fell_15 : decode cX4_fell 15 = .ok (.iconst 0, 1) := by decide +kernel
theorem dX4_fell_16 : decode cX4_fell 16 = .ok (.istore 5, 2) := by decide +kernel
theorem dX4_fell_18 : decode cX4_fell 18 = .ok (.iload 5, 2) := by decide +kernel
theorem dX4_fell_20 : decode cX4_fell 20 = .ok (.aload_n 0, 1) := by decide +kernel
theorem dX4_fell_21 : decode cX4_fell 21 = .ok (.getfield 9, 3) := by decide +kernel
theorem dX4_fell_24 : decode cX4_fell 24 = .ok (.if_icmp .ge 28, 3) := by decide +kernel
theorem dX4_fell_27 : decode cX4_fell 27 = .ok (.aload_n 1, 1) := by decide +kernel
theorem dX4_fell_28 : decode cX4_fell 28 = .ok (.iload 5, 2) := by decide +kernel
theorem dX4_fell_30 : decode cX4_fell 30 = .ok (.dup2, 1) := by decide +kernel
theorem dX4_fell_31 : decode cX4_fell 31 = .ok (.laload, 1) := by decide +kernel
theorem dX4_fell_32 : decode cX4_fell 32 = .ok (.lload_n 3, 1) := by decide +kernel
theorem dX4_fell_33 : decode cX4_fell 33 = .ok (.aload_n 0, 1) := by decide +kernel
theorem dX4_fell_34 : decode cX4_fell 34 = .ok (.getfield 17, 3) := by decide +kernel
theorem dX4_fell_37 : decode cX4_fell 37 = .ok (.iload_n 2, 1) := by decide +kernel
theorem dX4_fell_38 : decode cX4_fell 38 = .ok (.aaload, 1) := by decide +kernel
theorem dX4_fell_39 : decode cX4_fell 39 = .ok (.iload 5, 2) := by decide +kernel
theorem dX4_fell_41 : decode cX4_fell 41 = .ok (.iaload, 1) := by decide +kernel
theorem dX4_fell_42 : decode cX4_fell 42 = .ok (.i2l, 1) := by decide +kernel
theorem dX4_fell_43 : decode cX4_fell 43 = .ok (.lmul, 1) := by decide +kernel
theorem dX4_fell_44 : decode cX4_fell 44 = .ok (.ladd, 1) := by decide +kernel
theorem dX4_fell_45 : decode cX4_fell 45 = .ok (.lastore, 1) := by decide +kernel
theorem dX4_fell_46 : decode cX4_fell 46 = .ok (.iinc 5 1, 3) := by decide +kernel
theorem dX4_fell_49 : decode cX4_fell 49 = .ok (.goto (-31), 3) := by decide +kernel
theorem dX4_fell_52 : decode cX4_fell 52 = .ok (.return_, 1) := by decide +kernel
set_option maxRecDepth 20000 in
theorem ggX4_calm_J7_fill_d0a16 : GoodIn wsX4_calm wsJ7_fill_d0a16 := goodIn_r _ [6] (by decide +kernel) (by decide +kernel)
set_option maxRecDepth 20000 in
theorem gX4_calm_J7_fill_d0a16 : GoodIn wsX4_calm (va_wsS RX4 32 yJ7_fill_d0a16 wsJ7_fill_d0a16) := goodIn_app (goodIn_of _ (by decide +kernel)) ggX4_calm_J7_fill_d0a16
set_option maxRecDepth 20000 in
theorem ggX4_calm_X4_fallsDue : GoodIn wsX4_calm wsX4_fallsDue := goodIn_r _ [11, 12, 18, 19, 20, 21] (by decide +kernel) (by decide +kernel)
set_option maxRecDepth 20000 in
theorem gX4_calm_X4_fallsDue : GoodIn wsX4_calm (wsV RX4 39 RX4 yX4_fallsDue wsX4_fallsDue) := goodIn_app (goodIn_of _ (by decide +kernel)) ggX4_calm_X4_fallsDue
set_option maxRecDepth 20000 in
theorem ggX4_calm_X4_fell : GoodIn wsX4_calm wsX4_fell := goodIn_r _ [16, 12, 2, 17, 18, 19, 20, 21] (by decide +kernel) (by decide +kernel)
set_option maxRecDepth 20000 in
theorem gX4_calm_X4_fell : GoodIn wsX4_calm (wsV RX4 43 RX4 yX4_fell wsX4_fell) := goodIn_app (goodIn_of _ (by decide +kernel)) ggX4_calm_X4_fell
theorem dX4_calm_0 : decode cX4_calm 0 = .ok (.aload_n 2, 1) := by decide +kernel
theorem dX4_calm_1 : decode cX4_calm 1 = .ok (.lconst 0, 1) := by decide +kernel
theorem dX4_calm_2 : decode cX4_calm 2 = .ok (.invokestatic 32, 3) := by decide +kernel
theorem dX4_calm_5 : decode cX4_calm 5 = .ok (.lconst 0, 1) := by decide +kernel
theorem dX4_calm_6 : decode cX4_calm 6 = .ok (.lstore_n 3, 1) := by decide +kernel
theorem dX4_calm_7 : decode cX4_calm 7 = .ok (.iconst 1, 1) := by decide +kernel
theorem dX4_calm_8 : decode cX4_calm 8 = .ok (.istore 5, 2) := by decide +kernel
theorem dX4_calm_10 : decode cX4_calm 10 = .ok (.iconst 0, 1) := by decide +kernel
theorem dX4_calm_11 : decode cX4_calm 11 = .ok (.istore 6, 2) := by decide +kernel
theorem dX4_calm_13 : decode cX4_calm 13 = .ok (.iload 5, 2) := by decide +kernel
theorem dX4_calm_15 : decode cX4_calm 15 = .ok (.ifCond .eq 79, 3) := by decide +kernel
theorem dX4_calm_18 : decode cX4_calm 18 = .ok (.iload 6, 2) := by decide +kernel
theorem dX4_calm_20 : decode cX4_calm 20 = .ok (.ldc 38, 2) := by decide +kernel
theorem dX4_calm_22 : decode cX4_calm 22 = .ok (.if_icmp .ge 72, 3) := by decide +kernel
theorem dX4_calm_25 : decode cX4_calm 25 = .ok (.iconst 0, 1) := by decide +kernel
theorem dX4_calm_26 : decode cX4_calm 26 = .ok (.istore 5, 2) := by decide +kernel
theorem dX4_calm_28 : decode cX4_calm 28 = .ok (.iconst 1, 1) := by decide +kernel
theorem dX4_calm_29 : decode cX4_calm 29 = .ok (.istore 7, 2) := by decide +kernel
theorem dX4_calm_31 : decode cX4_calm 31 = .ok (.iload 7, 2) := by decide +kernel
theorem dX4_calm_33 : decode cX4_calm 33 = .ok (.aload_n 0, 1) := by decide +kernel
theorem dX4_calm_34 : decode cX4_calm 34 = .ok (.getfield 9, 3) := by decide +kernel
theorem dX4_calm_37 : decode cX4_calm 37 = .ok (.if_icmp .ge 51, 3) := by decide +kernel
theorem dX4_calm_40 : decode cX4_calm 40 = .ok (.aload_n 0, 1) := by decide +kernel
theorem dX4_calm_41 : decode cX4_calm 41 = .ok (.aload_n 1, 1) := by decide +kernel
theorem dX4_calm_42 : decode cX4_calm 42 = .ok (.iload 7, 2) := by decide +kernel
theorem dX4_calm_44 : decode cX4_calm 44 = .ok (.invokevirtual 39, 3) := by decide +kernel
theorem dX4_calm_47 : decode cX4_calm 47 = .ok (.lstore 8, 2) := by decide +kernel
theorem dX4_calm_49 : decode cX4_calm 49 = .ok (.lload 8, 2) := by decide +kernel
theorem dX4_calm_51 : decode cX4_calm 51 = .ok (.lconst 0, 1) := by decide +kernel
theorem dX4_calm_52 : decode cX4_calm 52 = .ok (.lcmp, 1) := by decide +kernel
theorem dX4_calm_53 : decode cX4_calm 53 = .ok (.ifCond .le 29, 3) := by decide +kernel
theorem dX4_calm_56 : decode cX4_calm 56 = .ok (.aload_n 0, 1) := by decide +kernel
theorem dX4_calm_57 : decode cX4_calm 57 = .ok (.aload_n 1, 1) := by decide +kernel
theorem dX4_calm_58 : decode cX4_calm 58 = .ok (.iload 7, 2) := by decide +kernel
theorem dX4_calm_60 : decode cX4_calm 60 = .ok (.lload 8, 2) := by decide +kernel
theorem dX4_calm_62 : decode cX4_calm 62 = .ok (.invokevirtual 43, 3) := by decide +kernel
theorem dX4_calm_65 : decode cX4_calm 65 = .ok (.aload_n 2, 1) := by decide +kernel
theorem dX4_calm_66 : decode cX4_calm 66 = .ok (.iload 7, 2) := by decide +kernel
theorem dX4_calm_68 : decode cX4_calm 68 = .ok (.dup2, 1) := by decide +kernel
theorem dX4_calm_69 : decode cX4_calm 69 = .ok (.laload, 1) := by decide +kernel
theorem dX4_calm_70 : decode cX4_calm 70 = .ok (.lload 8, 2) := by decide +kernel
theorem dX4_calm_72 : decode cX4_calm 72 = .ok (.ladd, 1) := by decide +kernel
theorem dX4_calm_73 : decode cX4_calm 73 = .ok (.lastore, 1) := by decide +kernel
theorem dX4_calm_74 : decode cX4_calm 74 = .ok (.lload_n 3, 1) := by decide +kernel
theorem dX4_calm_75 : decode cX4_calm 75 = .ok (.lload 8, 2) := by decide +kernel
theorem dX4_calm_77 : decode cX4_calm 77 = .ok (.ladd, 1) := by decide +kernel
theorem dX4_calm_78 : decode cX4_calm 78 = .ok (.lstore_n 3, 1) := by decide +kernel
theorem dX4_calm_79 : decode cX4_calm 79 = .ok (.iconst 1, 1) := by decide +kernel
theorem dX4_calm_80 : decode cX4_calm 80 = .ok (.istore 5, 2) := by decide +kernel
theorem dX4_calm_82 : decode cX4_calm 82 = .ok (.iinc 7 1, 3) := by decide +kernel
theorem dX4_calm_85 : decode cX4_calm 85 = .ok (.goto (-54), 3) := by decide +kernel
theorem dX4_calm_88 : decode cX4_calm 88 = .ok (.iinc 6 1, 3) := by decide +kernel
theorem dX4_calm_91 : decode cX4_calm 91 = .ok (.goto (-78), 3) := by decide +kernel
theorem dX4_calm_94 : decode cX4_calm 94 = .ok (.lload_n 3, 1) := by decide +kernel
theorem dX4_calm_95 : decode cX4_calm 95 = .ok (.lreturn, 1) := by decide +kernel
theorem dX4_fallsDue_0 : decode cX4_fallsDue 0 = .ok (.aload_n 0, 1) := by decide +kernel
theorem dX4_fallsDue_1 : decode cX4_fallsDue 1 = .ok (.getfield 20, 3) := by decide +kernel
theorem dX4_fallsDue_4 : decode cX4_fallsDue 4 = .ok (.iload_n 2, 1) := by decide +kernel
theorem dX4_fallsDue_5 : decode cX4_fallsDue 5 = .ok (.iaload, 1) := by decide +kernel
theorem dX4_fallsDue_6 : decode cX4_fallsDue 6 = .ok (.istore_n 3, 1) := by decide +kernel
theorem dX4_fallsDue_7 : decode cX4_fallsDue 7 = .ok (.iload_n 3, 1) := by decide +kernel
theorem dX4_fallsDue_8 : decode cX4_fallsDue 8 = .ok (.ifCond .gt 7, 3) := by decide +kernel
theorem dX4_fallsDue_11 : decode cX4_fallsDue 11 = .ok (.lconst 0, 1) := by decide +kernel
theorem dX4_fallsDue_12 : decode cX4_fallsDue 12 = .ok (.goto 9, 3) := by decide +kernel
theorem dX4_fallsDue_15 : decode cX4_fallsDue 15 = .ok (.aload_n 1, 1) := by decide +kernel
theorem dX4_fallsDue_16 : decode cX4_fallsDue 16 = .ok (.iload_n 2, 1) := by decide +kernel
theorem dX4_fallsDue_17 : decode cX4_fallsDue 17 = .ok (.laload, 1) := by decide +kernel
theorem dX4_fallsDue_18 : decode cX4_fallsDue 18 = .ok (.iload_n 3, 1) := by decide +kernel
theorem dX4_fallsDue_19 : decode cX4_fallsDue 19 = .ok (.i2l, 1) := by decide +kernel
theorem dX4_fallsDue_20 : decode cX4_fallsDue 20 = .ok (.ldiv, 1) := by decide +kernel
theorem dX4_fallsDue_21 : decode cX4_fallsDue 21 = .ok (.lreturn, 1) := by decide +kernel
set_option maxRecDepth 20000 in
theorem ggX5_init_X0_init : GoodIn wsX5_init wsX0_init := goodIn_r _ [24, 25, 2, 3, 26, 27, 57] (by decide +kernel) (by decide +kernel)
set_option maxRecDepth 20000 in
theorem gX5_init_X0_init : GoodIn wsX5_init (wsX0_init) := ggX5_init_X0_init
set_option maxRecDepth 20000 in
theorem ggX5_init_X2_init : GoodIn wsX5_init wsX2_init := goodIn_r _ [30, 31, 2, 3, 32, 33, 34, 35, 36, 37, 38, 39, 58, 59, 60, 61, 62, 63] (by decide +kernel) (by decide +kernel)
set_option maxRecDepth 20000 in
theorem gX5_init_X2_init : GoodIn wsX5_init (wsX2_init) := ggX5_init_X2_init
set_option maxRecDepth 20000 in
theorem ggX5_init_X3_init : GoodIn wsX5_init wsX3_init := goodIn_r _ [42, 43, 2, 3, 44, 32, 45, 46, 47, 48, 49, 64, 65, 66, 67, 68] (by decide +kernel) (by decide +kernel)
set_option maxRecDepth 20000 in
theorem gX5_init_X3_init : GoodIn wsX5_init (wsX3_init) := ggX5_init_X3_init

theorem dX6_burns_11 : decode cX6_burns 11 = .ok (.iconst 0, 1) := by decide +kernel
theorem dX6_burns_12 : decode cX6_burns 12 = .ok (.invokevirtual 135, 3) := by decide +kernel
theorem dX6_burns_15 : decode cX6_burns 15 = .ok (.ifCond .ne 5, 3) := by decide +kernel
theorem dX6_burns_18 : decode cX6_burns 18 = .ok (.iconst 0, 1) := by decide +kernel
theorem dX6_burns_19 : decode cX6_burns 19 = .ok (.ireturn, 1) := by decide +kernel
theorem dX6_burns_20 : decode cX6_burns 20 = .ok (.aload_n 0, 1) := by decide +kernel
theorem dX6_burns_21 : decode cX6_burns 21 = .ok (.iload_n 1, 1) := by decide +kernel
theorem dX6_burns_22 : decode cX6_burns 22 = .ok (.invokevirtual 147, 3) := by decide +kernel
theorem dX6_burns_25 : decode cX6_burns 25 = .ok (.ifCond .ne 5, 3) := by decide +kernel
theorem dX6_burns_28 : decode cX6_burns 28 = .ok (.iconst (-1), 1) := by decide +kernel
theorem dX6_burns_29 : decode cX6_burns 29 = .ok (.ireturn, 1) := by decide +kernel
theorem dX6_burns_30 : decode cX6_burns 30 = .ok (.aload_n 0, 1) := by decide +kernel
theorem dX6_burns_31 : decode cX6_burns 31 = .ok (.iload_n 1, 1) := by decide +kernel
theorem dX6_burns_32 : decode cX6_burns 32 = .ok (.invokevirtual 153, 3) := by decide +kernel
theorem dX6_burns_35 : decode cX6_burns 35 = .ok (.pop, 1) := by decide +kernel
theorem dX6_burns_36 : decode cX6_burns 36 = .ok (.aload_n 0, 1) := by decide +kernel
theorem dX6_burns_37 : decode cX6_burns 37 = .ok (.getfield 36, 3) := by decide +kernel
theorem dX6_burns_40 : decode cX6_burns 40 = .ok (.iload_n 2, 1) := by decide +kernel
theorem dX6_burns_41 : decode cX6_burns 41 = .ok (.iaload, 1) := by decide +kernel
theorem dX6_burns_42 : decode cX6_burns 42 = .ok (.ireturn, 1) := by decide +kernel
set_option maxRecDepth 20000 in
theorem ggX6_add_X6_isHeap : GoodIn wsX6_add wsX6_isHeap := goodIn_r _ [8, 9, 1, 10, 11, 12, 7, 13, 45, 46, 47, 48, 49, 50, 51, 52, 53, 54, 55, 56, 57, 58, 59, 60, 61, 62, 63] (by decide +kernel) (by decide +kernel)
set_option maxRecDepth 20000 in
theorem gX6_add_X6_isHeap : GoodIn wsX6_add (wsV RX6 132 RX6 yX6_isHeap wsX6_isHeap) := goodIn_app (goodIn_of _ (by decide +kernel)) ggX6_add_X6_isHeap
set_option maxRecDepth 20000 in
theorem ggX6_add_X6_right : GoodIn wsX6_add wsX6_right := goodIn_r _ [13, 9, 45, 46, 47, 48, 49, 50, 51, 52, 53, 54, 55, 56, 57, 58, 59, 60, 61, 62, 63] (by decide +kernel) (by decide +kernel)
set_option maxRecDepth 20000 in
theorem gX6_add_X6_right : GoodIn wsX6_add (wsV RX6 67 RX6 yX6_right wsX6_right) := goodIn_app (goodIn_of _ (by decide +kernel)) ggX6_add_X6_right
set_option maxRecDepth 20000 in
theorem ggX6_add_X6_size : GoodIn wsX6_add wsX6_size := goodIn_r _ [17, 18, 2, 45, 46, 47, 48, 49, 50, 51, 52, 53, 54, 55, 56, 57, 58, 59, 60, 61, 62, 63] (by decide +kernel) (by decide +kernel)
set_option maxRecDepth 20000 in
theorem gX6_add_X6_size : GoodIn wsX6_add (wsV RX6 129 RX6 yX6_size wsX6_size) := goodIn_app (goodIn_of _ (by decide +kernel)) ggX6_add_X6_size
set_option maxRecDepth 20000 in
theorem ggX6_add_X6_settles : GoodIn wsX6_add wsX6_settles := goodIn_r _ [22, 23, 3, 2, 24, 25, 26, 7, 27, 14, 15, 16, 17, 18, 28, 29, 30, 31, 32, 33, 34, 35, 36, 37, 38, 39, 40, 41, 42, 43, 44, 45, 46, 47, 48, 49, 50, 51, 52, 53, 54, 55, 56, 57, 58, 59, 60, 61, 62, 63] (by decide +kernel) (by decide +kernel)
set_option maxRecDepth 20000 in
theorem gX6_add_X6_settles : GoodIn wsX6_add (wsV RX6 150 RX6 yX6_settles wsX6_settles) := goodIn_app (goodIn_of _ (by decide +kernel)) ggX6_add_X6_settles
theorem dX6_add_0 : decode cX6_add 0 = .ok (.aload_n 0, 1) := by decide +kernel
theorem dX6_add_1 : decode cX6_add 1 = .ok (.iload_n 1, 1) := by decide +kernel
theorem dX6_add_2 : decode cX6_add 2 = .ok (.invokevirtual 132, 3) := by decide +kernel
theorem dX6_add_5 : decode cX6_add 5 = .ok (.ifCond .eq 56, 3) := by decide +kernel
theorem dX6_add_8 : decode cX6_add 8 = .ok (.aload_n 0, 1) := by decide +kernel
theorem dX6_add_9 : decode cX6_add 9 = .ok (.iload_n 2, 1) := by decide +kernel
theorem dX6_add_10 : decode cX6_add 10 = .ok (.ifCond .lt 15, 3) := by decide +kernel
theorem dX6_add_13 : decode cX6_add 13 = .ok (.iload_n 2, 1) := by decide +kernel
theorem dX6_add_14 : decode cX6_add 14 = .ok (.aload_n 0, 1) := by decide +kernel
theorem dX6_add_15 : decode cX6_add 15 = .ok (.getfield 126, 3) := by decide +kernel
theorem dX6_add_18 : decode cX6_add 18 = .ok (.if_icmp .ge 7, 3) := by decide +kernel
theorem dX6_add_21 : decode cX6_add 21 = .ok (.iconst 1, 1) := by decide +kernel
theorem dX6_add_22 : decode cX6_add 22 = .ok (.goto 4, 3) := by decide +kernel
theorem dX6_add_25 : decode cX6_add 25 = .ok (.iconst 0, 1) := by decide +kernel
theorem dX6_add_26 : decode cX6_add 26 = .ok (.iconst 1, 1) := by decide +kernel
theorem dX6_add_27 : decode cX6_add 27 = .ok (.invokevirtual 67, 3) := by decide +kernel
theorem dX6_add_30 : decode cX6_add 30 = .ok (.ifCond .eq 31, 3) := by decide +kernel
theorem dX6_add_33 : decode cX6_add 33 = .ok (.aload_n 0, 1) := by decide +kernel
theorem dX6_add_34 : decode cX6_add 34 = .ok (.aload_n 0, 1) := by decide +kernel
theorem dX6_add_35 : decode cX6_add 35 = .ok (.getfield 16, 3) := by decide +kernel
theorem dX6_add_38 : decode cX6_add 38 = .ok (.iload_n 1, 1) := by decide +kernel
theorem dX6_add_39 : decode cX6_add 39 = .ok (.iaload, 1) := by decide +kernel
theorem dX6_add_40 : decode cX6_add 40 = .ok (.aload_n 0, 1) := by decide +kernel
theorem dX6_add_41 : decode cX6_add 41 = .ok (.getfield 16, 3) := by decide +kernel
theorem dX6_add_44 : decode cX6_add 44 = .ok (.iload_n 2, 1) := by decide +kernel
theorem dX6_add_45 : decode cX6_add 45 = .ok (.iaload, 1) := by decide +kernel
theorem dX6_add_46 : decode cX6_add 46 = .ok (.if_icmp .ne 7, 3) := by decide +kernel
theorem dX6_add_49 : decode cX6_add 49 = .ok (.iconst 1, 1) := by decide +kernel
theorem dX6_add_50 : decode cX6_add 50 = .ok (.goto 4, 3) := by decide +kernel
theorem dX6_add_53 : decode cX6_add 53 = .ok (.iconst 0, 1) := by decide +kernel
theorem dX6_add_54 : decode cX6_add 54 = .ok (.iconst 2, 1) := by decide +kernel
theorem dX6_add_55 : decode cX6_add 55 = .ok (.invokevirtual 67, 3) := by decide +kernel
theorem dX6_add_58 : decode cX6_add 58 = .ok (.ifCond .ne 5, 3) := by decide +kernel
theorem dX6_add_61 : decode cX6_add 61 = .ok (.lconst 0, 1) := by decide +kernel
theorem dX6_add_62 : decode cX6_add 62 = .ok (.lreturn, 1) := by decide +kernel
theorem dX6_add_63 : decode cX6_add 63 = .ok (.iconst 1, 1) := by decide +kernel
theorem dX6_add_64 : decode cX6_add 64 = .ok (.istore_n 3, 1) := by decide +kernel
theorem dX6_add_65 : decode cX6_add 65 = .ok (.iload_n 3, 1) := by decide +kernel
theorem dX6_add_66 : decode cX6_add 66 = .ok (.aload_n 0, 1) := by decide +kernel
theorem dX6_add_67 : decode cX6_add 67 = .ok (.iload_n 1, 1) := by decide +kernel
theorem dX6_add_68 : decode cX6_add 68 = .ok (.invokevirtual 129, 3) := by decide +kernel
theorem dX6_add_71 : decode cX6_add 71 = .ok (.if_icmp .ge 34, 3) := by decide +kernel
theorem dX6_add_74 : decode cX6_add 74 = .ok (.aload_n 0, 1) := by decide +kernel
theorem dX6_add_75 : decode cX6_add 75 = .ok (.getfield 23, 3) := by decide +kernel
theorem dX6_add_78 : decode cX6_add 78 = .ok (.bipush 8, 2) := by decide +kernel
theorem dX6_add_80 : decode cX6_add 80 = .ok (.iload_n 1, 1) := by decide +kernel
theorem dX6_add_81 : decode cX6_add 81 = .ok (.imul, 1) := by decide +kernel
theorem dX6_add_82 : decode cX6_add 82 = .ok (.iload_n 3, 1) := by decide +kernel
theorem dX6_add_83 : decode cX6_add 83 = .ok (.iadd, 1) := by decide +kernel
theorem dX6_add_84 : decode cX6_add 84 = .ok (.dup2, 1) := by decide +kernel
theorem dX6_add_85 : decode cX6_add 85 = .ok (.laload, 1) := by decide +kernel
theorem dX6_add_86 : decode cX6_add 86 = .ok (.aload_n 0, 1) := by decide +kernel
theorem dX6_add_87 : decode cX6_add 87 = .ok (.getfield 23, 3) := by decide +kernel
theorem dX6_add_90 : decode cX6_add 90 = .ok (.bipush 8, 2) := by decide +kernel
theorem dX6_add_92 : decode cX6_add 92 = .ok (.iload_n 2, 1) := by decide +kernel
theorem dX6_add_93 : decode cX6_add 93 = .ok (.imul, 1) := by decide +kernel
theorem dX6_add_94 : decode cX6_add 94 = .ok (.iload_n 3, 1) := by decide +kernel
theorem dX6_add_95 : decode cX6_add 95 = .ok (.iadd, 1) := by decide +kernel
theorem dX6_add_96 : decode cX6_add 96 = .ok (.laload, 1) := by decide +kernel
theorem dX6_add_97 : decode cX6_add 97 = .ok (.ladd, 1) := by decide +kernel
theorem dX6_add_98 : decode cX6_add 98 = .ok (.lastore, 1) := by decide +kernel
theorem dX6_add_99 : decode cX6_add 99 = .ok (.iinc 3 1, 3) := by decide +kernel
theorem dX6_add_102 : decode cX6_add 102 = .ok (.goto (-37), 3) := by decide +kernel
theorem dX6_add_105 : decode cX6_add 105 = .ok (.aload_n 0, 1) := by decide +kernel
theorem dX6_add_106 : decode cX6_add 106 = .ok (.iload_n 1, 1) := by decide +kernel
theorem dX6_add_107 : decode cX6_add 107 = .ok (.invokevirtual 150, 3) := by decide +kernel
theorem dX6_add_110 : decode cX6_add 110 = .ok (.lreturn, 1) := by decide +kernel
theorem dX6_sets_0 : decode cX6_sets 0 = .ok (.aload_n 0, 1) := by decide +kernel
theorem dX6_sets_1 : decode cX6_sets 1 = .ok (.getfield 23, 3) := by decide +kernel
theorem dX6_sets_4 : decode cX6_sets 4 = .ok (.bipush 8, 2) := by decide +kernel
theorem dX6_sets_6 : decode cX6_sets 6 = .ok (.iload_n 1, 1) := by decide +kernel
theorem dX6_sets_7 : decode cX6_sets 7 = .ok (.imul, 1) := by decide +kernel
theorem dX6_sets_8 : decode cX6_sets 8 = .ok (.iload_n 2, 1) := by decide +kernel
theorem dX6_sets_9 : decode cX6_sets 9 = .ok (.iadd, 1) := by decide +kernel
theorem dX6_sets_10 : decode cX6_sets 10 = .ok (.lload_n 3, 1) := by decide +kernel
theorem dX6_sets_11 : decode cX6_sets 11 = .ok (.lastore, 1) := by decide +kernel
theorem dX6_sets_12 : decode cX6_sets 12 = .ok (.return_, 1) := by decide +kernel
set_option maxRecDepth 20000 in
theorem ggX6_fills_X6_size : GoodIn wsX6_fills wsX6_size := goodIn_r _ [9, 10, 1, 41, 42, 43, 44, 45, 46, 47, 48, 49, 50, 51, 52, 53, 54, 55, 56, 57, 58, 59] (by decide +kernel) (by decide +kernel)
set_option maxRecDepth 20000 in
theorem gX6_fills_X6_size : GoodIn wsX6_fills (wsV RX6 129 RX6 yX6_size wsX6_size) := goodIn_app (goodIn_of _ (by decide +kernel)) ggX6_fills_X6_size
set_option maxRecDepth 20000 in
theorem ggX6_fills_X6_degreeOf : GoodIn wsX6_fills wsX6_degreeOf := goodIn_r _ [14, 10, 15, 16, 17, 8, 18, 19, 41, 42, 43, 44, 45, 46, 47, 48, 49, 50, 51, 52, 53, 54, 55, 56, 57, 58, 59] (by decide +kernel) (by decide +kernel)
set_option maxRecDepth 20000 in
theorem gX6_fills_X6_degreeOf : GoodIn wsX6_fills (wsV RX6 83 RX6 yX6_degreeOf wsX6_degreeOf) := goodIn_app (goodIn_of _ (by decide +kernel)) ggX6_fills_X6_degreeOf
set_option maxRecDepth 20000 in
theorem ggX6_fills_X6_sets : GoodIn wsX6_fills wsX6_sets := goodIn_r _ [23, 4, 41, 42, 43, 44, 45, 46, 47, 48, 49, 50, 51, 52, 53, 54, 55, 56, 57, 58, 59] (by decide +kernel) (by decide +kernel)
set_option maxRecDepth 20000 in
theorem gX6_fills_X6_sets : GoodIn wsX6_fills (wsV RX6 161 RX6 yX6_sets wsX6_sets) := goodIn_app (goodIn_of _ (by decide +kernel)) ggX6_fills_X6_sets
set_option maxRecDepth 20000 in
theorem ggX6_fills_X6_settles : GoodIn wsX6_fills wsX6_settles := goodIn_r _ [27, 28, 4, 1, 29, 30, 31, 8, 32, 5, 6, 7, 9, 10, 33, 34, 35, 36, 11, 12, 13, 14, 15, 16, 17, 18, 19, 37, 38, 39, 40, 41, 42, 43, 44, 45, 46, 47, 48, 49, 50, 51, 52, 53, 54, 55, 56, 57, 58, 59] (by decide +kernel) (by decide +kernel)
set_option maxRecDepth 20000 in
theorem gX6_fills_X6_settles : GoodIn wsX6_fills (wsV RX6 150 RX6 yX6_settles wsX6_settles) := goodIn_app (goodIn_of _ (by decide +kernel)) ggX6_fills_X6_settles
theorem dX6_fills_0 : decode cX6_fills 0 = .ok (.aload_n 0, 1) := by decide +kernel
theorem dX6_fills_1 : decode cX6_fills 1 = .ok (.getfield 16, 3) := by decide +kernel
theorem dX6_fills_4 : decode cX6_fills 4 = .ok (.iload_n 1, 1) := by decide +kernel
theorem dX6_fills_5 : decode cX6_fills 5 = .ok (.iaload, 1) := by decide +kernel
theorem dX6_fills_6 : decode cX6_fills 6 = .ok (.istore_n 2, 1) := by decide +kernel
theorem dX6_fills_7 : decode cX6_fills 7 = .ok (.iconst 1, 1) := by decide +kernel
theorem dX6_fills_8 : decode cX6_fills 8 = .ok (.istore_n 3, 1) := by decide +kernel
theorem dX6_fills_9 : decode cX6_fills 9 = .ok (.iload_n 3, 1) := by decide +kernel
theorem dX6_fills_10 : decode cX6_fills 10 = .ok (.aload_n 0, 1) := by decide +kernel
theorem dX6_fills_11 : decode cX6_fills 11 = .ok (.iload_n 1, 1) := by decide +kernel
theorem dX6_fills_12 : decode cX6_fills 12 = .ok (.invokevirtual 129, 3) := by decide +kernel
theorem dX6_fills_15 : decode cX6_fills 15 = .ok (.if_icmp .ge 30, 3) := by decide +kernel
theorem dX6_fills_18 : decode cX6_fills 18 = .ok (.aload_n 0, 1) := by decide +kernel
theorem dX6_fills_19 : decode cX6_fills 19 = .ok (.iload_n 1, 1) := by decide +kernel
theorem dX6_fills_20 : decode cX6_fills 20 = .ok (.iload_n 3, 1) := by decide +kernel
theorem dX6_fills_21 : decode cX6_fills 21 = .ok (.ldc2_w 159, 3) := by decide +kernel
theorem dX6_fills_24 : decode cX6_fills 24 = .ok (.aload_n 0, 1) := by decide +kernel
theorem dX6_fills_25 : decode cX6_fills 25 = .ok (.iload_n 2, 1) := by decide +kernel
theorem dX6_fills_26 : decode cX6_fills 26 = .ok (.iload_n 3, 1) := by decide +kernel
theorem dX6_fills_27 : decode cX6_fills 27 = .ok (.invokevirtual 83, 3) := by decide +kernel
theorem dX6_fills_30 : decode cX6_fills 30 = .ok (.i2l, 1) := by decide +kernel
theorem dX6_fills_31 : decode cX6_fills 31 = .ok (.lmul, 1) := by decide +kernel
theorem dX6_fills_32 : decode cX6_fills 32 = .ok (.ldc2_w 159, 3) := by decide +kernel
theorem dX6_fills_35 : decode cX6_fills 35 = .ok (.lsub, 1) := by decide +kernel
theorem dX6_fills_36 : decode cX6_fills 36 = .ok (.invokevirtual 161, 3) := by decide +kernel
theorem dX6_fills_39 : decode cX6_fills 39 = .ok (.iinc 3 1, 3) := by decide +kernel
theorem dX6_fills_42 : decode cX6_fills 42 = .ok (.goto (-33), 3) := by decide +kernel
theorem dX6_fills_45 : decode cX6_fills 45 = .ok (.aload_n 0, 1) := by decide +kernel
theorem dX6_fills_46 : decode cX6_fills 46 = .ok (.iload_n 1, 1) := by decide +kernel
theorem dX6_fills_47 : decode cX6_fills 47 = .ok (.invokevirtual 150, 3) := by decide +kernel
theorem dX6_fills_50 : decode cX6_fills 50 = .ok (.pop2, 1) := by decide +kernel
theorem dX6_fills_51 : decode cX6_fills 51 = .ok (.iconst 1, 1) := by decide +kernel
theorem dX6_fills_52 : decode cX6_fills 52 = .ok (.istore_n 3, 1) := by decide +kernel
theorem dX6_fills_53 : decode cX6_fills 53 = .ok (.iload_n 3, 1) := by decide +kernel
theorem dX6_fills_54 : decode cX6_fills 54 = .ok (.aload_n 0, 1) := by decide +kernel
theorem dX6_fills_55 : decode cX6_fills 55 = .ok (.iload_n 1, 1) := by decide +kernel
theorem dX6_fills_56 : decode cX6_fills 56 = .ok (.invokevirtual 129, 3) := by decide +kernel
theorem dX6_fills_59 : decode cX6_fills 59 = .ok (.if_icmp .ge 42, 3) := by decide +kernel
theorem dX6_fills_62 : decode cX6_fills 62 = .ok (.aload_n 0, 1) := by decide +kernel
theorem dX6_fills_63 : decode cX6_fills 63 = .ok (.getfield 45, 3) := by decide +kernel
theorem dX6_fills_66 : decode cX6_fills 66 = .ok (.iload_n 3, 1) := by decide +kernel
theorem dX6_fills_67 : decode cX6_fills 67 = .ok (.ldc2_w 159, 3) := by decide +kernel
theorem dX6_fills_70 : decode cX6_fills 70 = .ok (.aload_n 0, 1) := by decide +kernel
theorem dX6_fills_71 : decode cX6_fills 71 = .ok (.iload_n 2, 1) := by decide +kernel
theorem dX6_fills_72 : decode cX6_fills 72 = .ok (.iload_n 3, 1) := by decide +kernel
theorem dX6_fills_73 : decode cX6_fills 73 = .ok (.invokevirtual 83, 3) := by decide +kernel
theorem dX6_fills_76 : decode cX6_fills 76 = .ok (.i2l, 1) := by decide +kernel
theorem dX6_fills_77 : decode cX6_fills 77 = .ok (.lmul, 1) := by decide +kernel
theorem dX6_fills_78 : decode cX6_fills 78 = .ok (.ldc2_w 159, 3) := by decide +kernel
theorem dX6_fills_81 : decode cX6_fills 81 = .ok (.lsub, 1) := by decide +kernel
theorem dX6_fills_82 : decode cX6_fills 82 = .ok (.aload_n 0, 1) := by decide +kernel
theorem dX6_fills_83 : decode cX6_fills 83 = .ok (.getfield 23, 3) := by decide +kernel
theorem dX6_fills_86 : decode cX6_fills 86 = .ok (.bipush 8, 2) := by decide +kernel
theorem dX6_fills_88 : decode cX6_fills 88 = .ok (.iload_n 1, 1) := by decide +kernel
theorem dX6_fills_89 : decode cX6_fills 89 = .ok (.imul, 1) := by decide +kernel
theorem dX6_fills_90 : decode cX6_fills 90 = .ok (.iload_n 3, 1) := by decide +kernel
theorem dX6_fills_91 : decode cX6_fills 91 = .ok (.iadd, 1) := by decide +kernel
theorem dX6_fills_92 : decode cX6_fills 92 = .ok (.laload, 1) := by decide +kernel
theorem dX6_fills_93 : decode cX6_fills 93 = .ok (.lsub, 1) := by decide +kernel
theorem dX6_fills_94 : decode cX6_fills 94 = .ok (.lastore, 1) := by decide +kernel
theorem dX6_fills_95 : decode cX6_fills 95 = .ok (.iinc 3 1, 3) := by decide +kernel
theorem dX6_fills_98 : decode cX6_fills 98 = .ok (.goto (-45), 3) := by decide +kernel
theorem dX6_fills_101 : decode cX6_fills 101 = .ok (.return_, 1) := by decide +kernel
set_option maxRecDepth 20000 in
theorem ggX6_become_X6_isHeap : GoodIn wsX6_become wsX6_isHeap := goodIn_r _ [10, 11, 12, 13, 14, 15, 9, 16, 62, 63, 64, 65, 66, 67, 68, 69, 70, 71, 72, 73, 74, 75, 76, 77, 78, 79, 80] (by decide +kernel) (by decide +kernel)
set_option maxRecDepth 20000 in
theorem gX6_become_X6_isHeap : GoodIn wsX6_become (wsV RX6 132 RX6 yX6_isHeap wsX6_isHeap) := goodIn_app (goodIn_of _ (by decide +kernel)) ggX6_become_X6_isHeap
set_option maxRecDepth 20000 in
theorem ggX6_become_X6_right : GoodIn wsX6_become wsX6_right := goodIn_r _ [16, 11, 62, 63, 64, 65, 66, 67, 68, 69, 70, 71, 72, 73, 74, 75, 76, 77, 78, 79, 80] (by decide +kernel) (by decide +kernel)
set_option maxRecDepth 20000 in
theorem gX6_become_X6_right : GoodIn wsX6_become (wsV RX6 67 RX6 yX6_right wsX6_right) := goodIn_app (goodIn_of _ (by decide +kernel)) ggX6_become_X6_right
set_option maxRecDepth 20000 in
theorem ggX6_become_X6_size : GoodIn wsX6_become wsX6_size := goodIn_r _ [20, 21, 5, 62, 63, 64, 65, 66, 67, 68, 69, 70, 71, 72, 73, 74, 75, 76, 77, 78, 79, 80] (by decide +kernel) (by decide +kernel)
set_option maxRecDepth 20000 in
theorem gX6_become_X6_size : GoodIn wsX6_become (wsV RX6 129 RX6 yX6_size wsX6_size) := goodIn_app (goodIn_of _ (by decide +kernel)) ggX6_become_X6_size
set_option maxRecDepth 20000 in
theorem ggX6_become_X6_sets : GoodIn wsX6_become wsX6_sets := goodIn_r _ [25, 2, 62, 63, 64, 65, 66, 67, 68, 69, 70, 71, 72, 73, 74, 75, 76, 77, 78, 79, 80] (by decide +kernel) (by decide +kernel)
set_option maxRecDepth 20000 in
theorem gX6_become_X6_sets : GoodIn wsX6_become (wsV RX6 161 RX6 yX6_sets wsX6_sets) := goodIn_app (goodIn_of _ (by decide +kernel)) ggX6_become_X6_sets
set_option maxRecDepth 20000 in
theorem ggX6_become_X6_degreeOf : GoodIn wsX6_become wsX6_degreeOf := goodIn_r _ [29, 21, 30, 31, 32, 9, 33, 34, 62, 63, 64, 65, 66, 67, 68, 69, 70, 71, 72, 73, 74, 75, 76, 77, 78, 79, 80] (by decide +kernel) (by decide +kernel)
set_option maxRecDepth 20000 in
theorem gX6_become_X6_degreeOf : GoodIn wsX6_become (wsV RX6 83 RX6 yX6_degreeOf wsX6_degreeOf) := goodIn_app (goodIn_of _ (by decide +kernel)) ggX6_become_X6_degreeOf
set_option maxRecDepth 20000 in
theorem ggX6_become_X6_kinds : GoodIn wsX6_become wsX6_kinds := goodIn_r _ [38, 39, 2, 40, 41, 42, 43, 44, 9, 45, 4, 5, 46, 47, 48, 49, 17, 18, 19, 20, 21, 50, 51, 52, 53, 26, 27, 28, 29, 30, 31, 32, 33, 34, 54, 55, 56, 57, 58, 59, 60, 61, 22, 23, 24, 25, 62, 63, 64, 65, 66, 67, 68, 69, 70, 71, 72, 73, 74, 75, 76, 77, 78, 79, 80] (by decide +kernel) (by decide +kernel)
set_option maxRecDepth 20000 in
theorem gX6_become_X6_kinds : GoodIn wsX6_become (wsV RX6 164 RX6 yX6_kinds wsX6_kinds) := goodIn_app (goodIn_of _ (by decide +kernel)) ggX6_become_X6_kinds
theorem dX6_become_0 : decode cX6_become 0 = .ok (.aload_n 0, 1) := by decide +kernel
theorem dX6_become_1 : decode cX6_become 1 = .ok (.iload_n 1, 1) := by decide +kernel
theorem dX6_become_2 : decode cX6_become 2 = .ok (.invokevirtual 132, 3) := by decide +kernel
theorem dX6_become_5 : decode cX6_become 5 = .ok (.ifCond .eq 25, 3) := by decide +kernel
theorem dX6_become_8 : decode cX6_become 8 = .ok (.aload_n 0, 1) := by decide +kernel
theorem dX6_become_9 : decode cX6_become 9 = .ok (.iload_n 2, 1) := by decide +kernel
theorem dX6_become_10 : decode cX6_become 10 = .ok (.ifCond .lt 12, 3) := by decide +kernel
theorem dX6_become_13 : decode cX6_become 13 = .ok (.iload_n 2, 1) := by decide +kernel
theorem dX6_become_14 : decode cX6_become 14 = .ok (.iconst 4, 1) := by decide +kernel
theorem dX6_become_15 : decode cX6_become 15 = .ok (.if_icmp .gt 7, 3) := by decide +kernel
theorem dX6_become_18 : decode cX6_become 18 = .ok (.iconst 1, 1) := by decide +kernel
theorem dX6_become_19 : decode cX6_become 19 = .ok (.goto 4, 3) := by decide +kernel
theorem dX6_become_22 : decode cX6_become 22 = .ok (.iconst 0, 1) := by decide +kernel
theorem dX6_become_23 : decode cX6_become 23 = .ok (.iconst 1, 1) := by decide +kernel
theorem dX6_become_24 : decode cX6_become 24 = .ok (.invokevirtual 67, 3) := by decide +kernel
theorem dX6_become_27 : decode cX6_become 27 = .ok (.ifCond .ne 4, 3) := by decide +kernel
theorem dX6_become_30 : decode cX6_become 30 = .ok (.return_, 1) := by decide +kernel
theorem dX6_become_31 : decode cX6_become 31 = .ok (.iconst 0, 1) := by decide +kernel
theorem dX6_become_32 : decode cX6_become 32 = .ok (.istore_n 3, 1) := by decide +kernel
theorem dX6_become_33 : decode cX6_become 33 = .ok (.iload_n 3, 1) := by decide +kernel
theorem dX6_become_34 : decode cX6_become 34 = .ok (.bipush 8, 2) := by decide +kernel
theorem dX6_become_36 : decode cX6_become 36 = .ok (.if_icmp .ge 43, 3) := by decide +kernel
theorem dX6_become_39 : decode cX6_become 39 = .ok (.aload_n 0, 1) := by decide +kernel
theorem dX6_become_40 : decode cX6_become 40 = .ok (.getfield 39, 3) := by decide +kernel
theorem dX6_become_43 : decode cX6_become 43 = .ok (.iload_n 3, 1) := by decide +kernel
theorem dX6_become_44 : decode cX6_become 44 = .ok (.aload_n 0, 1) := by decide +kernel
theorem dX6_become_45 : decode cX6_become 45 = .ok (.getfield 23, 3) := by decide +kernel
theorem dX6_become_48 : decode cX6_become 48 = .ok (.bipush 8, 2) := by decide +kernel
theorem dX6_become_50 : decode cX6_become 50 = .ok (.iload_n 1, 1) := by decide +kernel
theorem dX6_become_51 : decode cX6_become 51 = .ok (.imul, 1) := by decide +kernel
theorem dX6_become_52 : decode cX6_become 52 = .ok (.iload_n 3, 1) := by decide +kernel
theorem dX6_become_53 : decode cX6_become 53 = .ok (.iadd, 1) := by decide +kernel
theorem dX6_become_54 : decode cX6_become 54 = .ok (.laload, 1) := by decide +kernel
theorem dX6_become_55 : decode cX6_become 55 = .ok (.lastore, 1) := by decide +kernel
theorem dX6_become_56 : decode cX6_become 56 = .ok (.aload_n 0, 1) := by decide +kernel
theorem dX6_become_57 : decode cX6_become 57 = .ok (.getfield 42, 3) := by decide +kernel
theorem dX6_become_60 : decode cX6_become 60 = .ok (.iload_n 3, 1) := by decide +kernel
theorem dX6_become_61 : decode cX6_become 61 = .ok (.aload_n 0, 1) := by decide +kernel
theorem dX6_become_62 : decode cX6_become 62 = .ok (.getfield 27, 3) := by decide +kernel
theorem dX6_become_65 : decode cX6_become 65 = .ok (.bipush 8, 2) := by decide +kernel
theorem dX6_become_67 : decode cX6_become 67 = .ok (.iload_n 1, 1) := by decide +kernel
theorem dX6_become_68 : decode cX6_become 68 = .ok (.imul, 1) := by decide +kernel
theorem dX6_become_69 : decode cX6_become 69 = .ok (.iload_n 3, 1) := by decide +kernel
theorem dX6_become_70 : decode cX6_become 70 = .ok (.iadd, 1) := by decide +kernel
theorem dX6_become_71 : decode cX6_become 71 = .ok (.laload, 1) := by decide +kernel
theorem dX6_become_72 : decode cX6_become 72 = .ok (.lastore, 1) := by decide +kernel
theorem dX6_become_73 : decode cX6_become 73 = .ok (.iinc 3 1, 3) := by decide +kernel
theorem dX6_become_76 : decode cX6_become 76 = .ok (.goto (-43), 3) := by decide +kernel
theorem dX6_become_79 : decode cX6_become 79 = .ok (.iload_n 2, 1) := by decide +kernel
theorem dX6_become_80 : decode cX6_become 80 = .ok (.ifCond .ne 30, 3) := by decide +kernel
theorem dX6_become_83 : decode cX6_become 83 = .ok (.iconst 1, 1) := by decide +kernel
theorem dX6_become_84 : decode cX6_become 84 = .ok (.istore_n 3, 1) := by decide +kernel
theorem dX6_become_85 : decode cX6_become 85 = .ok (.iload_n 3, 1) := by decide +kernel
theorem dX6_become_86 : decode cX6_become 86 = .ok (.aload_n 0, 1) := by decide +kernel
theorem dX6_become_87 : decode cX6_become 87 = .ok (.iload_n 1, 1) := by decide +kernel
theorem dX6_become_88 : decode cX6_become 88 = .ok (.invokevirtual 129, 3) := by decide +kernel
theorem dX6_become_91 : decode cX6_become 91 = .ok (.if_icmp .ge 16, 3) := by decide +kernel
theorem dX6_become_94 : decode cX6_become 94 = .ok (.aload_n 0, 1) := by decide +kernel
theorem dX6_become_95 : decode cX6_become 95 = .ok (.iload_n 1, 1) := by decide +kernel
theorem dX6_become_96 : decode cX6_become 96 = .ok (.iload_n 3, 1) := by decide +kernel
theorem dX6_become_97 : decode cX6_become 97 = .ok (.lconst 0, 1) := by decide +kernel
theorem dX6_become_98 : decode cX6_become 98 = .ok (.invokevirtual 161, 3) := by decide +kernel
theorem dX6_become_101 : decode cX6_become 101 = .ok (.iinc 3 1, 3) := by decide +kernel
theorem dX6_become_104 : decode cX6_become 104 = .ok (.goto (-19), 3) := by decide +kernel
theorem dX6_become_107 : decode cX6_become 107 = .ok (.goto 54, 3) := by decide +kernel
theorem dX6_become_110 : decode cX6_become 110 = .ok (.iload_n 2, 1) := by decide +kernel
theorem dX6_become_111 : decode cX6_become 111 = .ok (.iconst 1, 1) := by decide +kernel
theorem dX6_become_112 : decode cX6_become 112 = .ok (.if_icmp .ne 43, 3) := by decide +kernel
theorem dX6_become_115 : decode cX6_become 115 = .ok (.iconst 1, 1) := by decide +kernel
theorem dX6_become_116 : decode cX6_become 116 = .ok (.istore_n 3, 1) := by decide +kernel
theorem dX6_become_117 : decode cX6_become 117 = .ok (.iload_n 3, 1) := by decide +kernel
theorem dX6_become_118 : decode cX6_become 118 = .ok (.aload_n 0, 1) := by decide +kernel
theorem dX6_become_119 : decode cX6_become 119 = .ok (.iload_n 1, 1) := by decide +kernel
theorem dX6_become_120 : decode cX6_become 120 = .ok (.invokevirtual 129, 3) := by decide +kernel
theorem dX6_become_123 : decode cX6_become 123 = .ok (.if_icmp .ge 29, 3) := by decide +kernel
theorem dX6_become_126 : decode cX6_become 126 = .ok (.aload_n 0, 1) := by decide +kernel
theorem dX6_become_127 : decode cX6_become 127 = .ok (.iload_n 1, 1) := by decide +kernel
theorem dX6_become_128 : decode cX6_become 128 = .ok (.iload_n 3, 1) := by decide +kernel
theorem dX6_become_129 : decode cX6_become 129 = .ok (.aload_n 0, 1) := by decide +kernel
theorem dX6_become_130 : decode cX6_become 130 = .ok (.aload_n 0, 1) := by decide +kernel
theorem dX6_become_131 : decode cX6_become 131 = .ok (.getfield 16, 3) := by decide +kernel
theorem dX6_become_134 : decode cX6_become 134 = .ok (.iload_n 1, 1) := by decide +kernel
theorem dX6_become_135 : decode cX6_become 135 = .ok (.iaload, 1) := by decide +kernel
theorem dX6_become_136 : decode cX6_become 136 = .ok (.iload_n 3, 1) := by decide +kernel
theorem dX6_become_137 : decode cX6_become 137 = .ok (.invokevirtual 83, 3) := by decide +kernel
theorem dX6_become_140 : decode cX6_become 140 = .ok (.iconst 1, 1) := by decide +kernel
theorem dX6_become_141 : decode cX6_become 141 = .ok (.isub, 1) := by decide +kernel
theorem dX6_become_142 : decode cX6_become 142 = .ok (.i2l, 1) := by decide +kernel
theorem dX6_become_143 : decode cX6_become 143 = .ok (.invokevirtual 161, 3) := by decide +kernel
theorem dX6_become_146 : decode cX6_become 146 = .ok (.iinc 3 1, 3) := by decide +kernel
theorem dX6_become_149 : decode cX6_become 149 = .ok (.goto (-32), 3) := by decide +kernel
theorem dX6_become_152 : decode cX6_become 152 = .ok (.goto 9, 3) := by decide +kernel
theorem dX6_become_155 : decode cX6_become 155 = .ok (.aload_n 0, 1) := by decide +kernel
theorem dX6_become_156 : decode cX6_become 156 = .ok (.iload_n 1, 1) := by decide +kernel
theorem dX6_become_157 : decode cX6_become 157 = .ok (.iload_n 2, 1) := by decide +kernel
theorem dX6_become_158 : decode cX6_become 158 = .ok (.invokevirtual 164, 3) := by decide +kernel
theorem dX6_become_161 : decode cX6_become 161 = .ok (.aload_n 0, 1) := by decide +kernel
theorem dX6_become_162 : decode cX6_become 162 = .ok (.getfield 23, 3) := by decide +kernel
theorem dX6_become_165 : decode cX6_become 165 = .ok (.bipush 8, 2) := by decide +kernel
theorem dX6_become_167 : decode cX6_become 167 = .ok (.iload_n 1, 1) := by decide +kernel
theorem dX6_become_168 : decode cX6_become 168 = .ok (.imul, 1) := by decide +kernel
theorem dX6_become_169 : decode cX6_become 169 = .ok (.aload_n 0, 1) := by decide +kernel
theorem dX6_become_170 : decode cX6_become 170 = .ok (.getfield 39, 3) := by decide +kernel
theorem dX6_become_173 : decode cX6_become 173 = .ok (.iconst 0, 1) := by decide +kernel
theorem dX6_become_174 : decode cX6_become 174 = .ok (.laload, 1) := by decide +kernel
theorem dX6_become_175 : decode cX6_become 175 = .ok (.lastore, 1) := by decide +kernel
theorem dX6_become_176 : decode cX6_become 176 = .ok (.iconst 0, 1) := by decide +kernel
theorem dX6_become_177 : decode cX6_become 177 = .ok (.istore_n 3, 1) := by decide +kernel
theorem dX6_become_178 : decode cX6_become 178 = .ok (.iload_n 3, 1) := by decide +kernel
theorem dX6_become_179 : decode cX6_become 179 = .ok (.bipush 8, 2) := by decide +kernel
theorem dX6_become_181 : decode cX6_become 181 = .ok (.if_icmp .ge 26, 3) := by decide +kernel
theorem dX6_become_184 : decode cX6_become 184 = .ok (.aload_n 0, 1) := by decide +kernel
theorem dX6_become_185 : decode cX6_become 185 = .ok (.getfield 27, 3) := by decide +kernel
theorem dX6_become_188 : decode cX6_become 188 = .ok (.bipush 8, 2) := by decide +kernel
theorem dX6_become_190 : decode cX6_become 190 = .ok (.iload_n 1, 1) := by decide +kernel
theorem dX6_become_191 : decode cX6_become 191 = .ok (.imul, 1) := by decide +kernel
theorem dX6_become_192 : decode cX6_become 192 = .ok (.iload_n 3, 1) := by decide +kernel
theorem dX6_become_193 : decode cX6_become 193 = .ok (.iadd, 1) := by decide +kernel
theorem dX6_become_194 : decode cX6_become 194 = .ok (.aload_n 0, 1) := by decide +kernel
theorem dX6_become_195 : decode cX6_become 195 = .ok (.getfield 42, 3) := by decide +kernel
theorem dX6_become_198 : decode cX6_become 198 = .ok (.iload_n 3, 1) := by decide +kernel
theorem dX6_become_199 : decode cX6_become 199 = .ok (.laload, 1) := by decide +kernel
theorem dX6_become_200 : decode cX6_become 200 = .ok (.lastore, 1) := by decide +kernel
theorem dX6_become_201 : decode cX6_become 201 = .ok (.iinc 3 1, 3) := by decide +kernel
theorem dX6_become_204 : decode cX6_become 204 = .ok (.goto (-26), 3) := by decide +kernel
theorem dX6_become_207 : decode cX6_become 207 = .ok (.return_, 1) := by decide +kernel
set_option maxRecDepth 20000 in
theorem ggX6_kinds_X6_settles : GoodIn wsX6_kinds wsX6_settles := goodIn_r _ [9, 10, 2, 11, 12, 13, 14, 8, 15, 16, 17, 18, 19, 20, 21, 22, 23, 24, 25, 26, 27, 28, 29, 30, 31, 32, 33, 34, 35, 36, 37, 46, 47, 48, 49, 50, 51, 52, 53, 54, 55, 56, 57, 58, 59, 60, 61, 62, 63, 64] (by decide +kernel) (by decide +kernel)
set_option maxRecDepth 20000 in
theorem gX6_kinds_X6_settles : GoodIn wsX6_kinds (wsV RX6 150 RX6 yX6_settles wsX6_settles) := goodIn_app (goodIn_of _ (by decide +kernel)) ggX6_kinds_X6_settles
set_option maxRecDepth 20000 in
theorem ggX6_kinds_X6_size : GoodIn wsX6_kinds wsX6_size := goodIn_r _ [19, 20, 11, 46, 47, 48, 49, 50, 51, 52, 53, 54, 55, 56, 57, 58, 59, 60, 61, 62, 63, 64] (by decide +kernel) (by decide +kernel)
set_option maxRecDepth 20000 in
theorem gX6_kinds_X6_size : GoodIn wsX6_kinds (wsV RX6 129 RX6 yX6_size wsX6_size) := goodIn_app (goodIn_of _ (by decide +kernel)) ggX6_kinds_X6_size
set_option maxRecDepth 20000 in
theorem ggX6_kinds_X6_fills : GoodIn wsX6_kinds wsX6_fills := goodIn_r _ [41, 11, 4, 3, 2, 16, 17, 18, 8, 19, 20, 25, 26, 27, 28, 29, 30, 31, 32, 33, 42, 43, 44, 45, 5, 6, 7, 9, 10, 12, 13, 14, 15, 21, 22, 23, 24, 34, 35, 36, 37, 46, 47, 48, 49, 50, 51, 52, 53, 54, 55, 56, 57, 58, 59, 60, 61, 62, 63, 64] (by decide +kernel) (by decide +kernel)
set_option maxRecDepth 20000 in
theorem gX6_kinds_X6_fills : GoodIn wsX6_kinds (wsV RX6 168 RX6 yX6_fills wsX6_fills) := goodIn_app (goodIn_of _ (by decide +kernel)) ggX6_kinds_X6_fills
set_option maxRecDepth 20000 in
theorem ggX6_kinds_X6_sets : GoodIn wsX6_kinds wsX6_sets := goodIn_r _ [45, 2, 46, 47, 48, 49, 50, 51, 52, 53, 54, 55, 56, 57, 58, 59, 60, 61, 62, 63, 64] (by decide +kernel) (by decide +kernel)
set_option maxRecDepth 20000 in
theorem gX6_kinds_X6_sets : GoodIn wsX6_kinds (wsV RX6 161 RX6 yX6_sets wsX6_sets) := goodIn_app (goodIn_of _ (by decide +kernel)) ggX6_kinds_X6_sets
theorem dX6_kinds_0 : decode cX6_kinds 0 = .ok (.aload_n 0, 1) := by decide +kernel
theorem dX6_kinds_1 : decode cX6_kinds 1 = .ok (.iload_n 1, 1) := by decide +kernel
theorem dX6_kinds_2 : decode cX6_kinds 2 = .ok (.invokevirtual 150, 3) := by decide +kernel
theorem dX6_kinds_5 : decode cX6_kinds 5 = .ok (.pop2, 1) := by decide +kernel
theorem dX6_kinds_6 : decode cX6_kinds 6 = .ok (.iconst 1, 1) := by decide +kernel
theorem dX6_kinds_7 : decode cX6_kinds 7 = .ok (.istore_n 3, 1) := by decide +kernel
theorem dX6_kinds_8 : decode cX6_kinds 8 = .ok (.iload_n 3, 1) := by decide +kernel
theorem dX6_kinds_9 : decode cX6_kinds 9 = .ok (.aload_n 0, 1) := by decide +kernel
theorem dX6_kinds_10 : decode cX6_kinds 10 = .ok (.iload_n 1, 1) := by decide +kernel
theorem dX6_kinds_11 : decode cX6_kinds 11 = .ok (.invokevirtual 129, 3) := by decide +kernel
theorem dX6_kinds_14 : decode cX6_kinds 14 = .ok (.if_icmp .ge 26, 3) := by decide +kernel
theorem dX6_kinds_17 : decode cX6_kinds 17 = .ok (.aload_n 0, 1) := by decide +kernel
theorem dX6_kinds_18 : decode cX6_kinds 18 = .ok (.getfield 48, 3) := by decide +kernel
theorem dX6_kinds_21 : decode cX6_kinds 21 = .ok (.iload_n 3, 1) := by decide +kernel
theorem dX6_kinds_22 : decode cX6_kinds 22 = .ok (.aload_n 0, 1) := by decide +kernel
theorem dX6_kinds_23 : decode cX6_kinds 23 = .ok (.getfield 23, 3) := by decide +kernel
theorem dX6_kinds_26 : decode cX6_kinds 26 = .ok (.bipush 8, 2) := by decide +kernel
theorem dX6_kinds_28 : decode cX6_kinds 28 = .ok (.iload_n 1, 1) := by decide +kernel
theorem dX6_kinds_29 : decode cX6_kinds 29 = .ok (.imul, 1) := by decide +kernel
theorem dX6_kinds_30 : decode cX6_kinds 30 = .ok (.iload_n 3, 1) := by decide +kernel
theorem dX6_kinds_31 : decode cX6_kinds 31 = .ok (.iadd, 1) := by decide +kernel
theorem dX6_kinds_32 : decode cX6_kinds 32 = .ok (.laload, 1) := by decide +kernel
theorem dX6_kinds_33 : decode cX6_kinds 33 = .ok (.lastore, 1) := by decide +kernel
theorem dX6_kinds_34 : decode cX6_kinds 34 = .ok (.iinc 3 1, 3) := by decide +kernel
theorem dX6_kinds_37 : decode cX6_kinds 37 = .ok (.goto (-29), 3) := by decide +kernel
theorem dX6_kinds_40 : decode cX6_kinds 40 = .ok (.aload_n 0, 1) := by decide +kernel
theorem dX6_kinds_41 : decode cX6_kinds 41 = .ok (.iload_n 1, 1) := by decide +kernel
theorem dX6_kinds_42 : decode cX6_kinds 42 = .ok (.invokevirtual 168, 3) := by decide +kernel
theorem dX6_kinds_45 : decode cX6_kinds 45 = .ok (.iconst 1, 1) := by decide +kernel
theorem dX6_kinds_46 : decode cX6_kinds 46 = .ok (.istore_n 3, 1) := by decide +kernel
theorem dX6_kinds_47 : decode cX6_kinds 47 = .ok (.iload_n 3, 1) := by decide +kernel
theorem dX6_kinds_48 : decode cX6_kinds 48 = .ok (.aload_n 0, 1) := by decide +kernel
theorem dX6_kinds_49 : decode cX6_kinds 49 = .ok (.iload_n 1, 1) := by decide +kernel
theorem dX6_kinds_50 : decode cX6_kinds 50 = .ok (.invokevirtual 129, 3) := by decide +kernel
theorem dX6_kinds_53 : decode cX6_kinds 53 = .ok (.if_icmp .ge 67, 3) := by decide +kernel
theorem dX6_kinds_56 : decode cX6_kinds 56 = .ok (.aload_n 0, 1) := by decide +kernel
theorem dX6_kinds_57 : decode cX6_kinds 57 = .ok (.iload_n 1, 1) := by decide +kernel
theorem dX6_kinds_58 : decode cX6_kinds 58 = .ok (.iload_n 3, 1) := by decide +kernel
theorem dX6_kinds_59 : decode cX6_kinds 59 = .ok (.iload_n 2, 1) := by decide +kernel
theorem dX6_kinds_60 : decode cX6_kinds 60 = .ok (.iconst 2, 1) := by decide +kernel
theorem dX6_kinds_61 : decode cX6_kinds 61 = .ok (.if_icmp .ne 12, 3) := by decide +kernel
theorem dX6_kinds_64 : decode cX6_kinds 64 = .ok (.aload_n 0, 1) := by decide +kernel
theorem dX6_kinds_65 : decode cX6_kinds 65 = .ok (.getfield 45, 3) := by decide +kernel
theorem dX6_kinds_68 : decode cX6_kinds 68 = .ok (.iload_n 3, 1) := by decide +kernel
theorem dX6_kinds_69 : decode cX6_kinds 69 = .ok (.laload, 1) := by decide +kernel
theorem dX6_kinds_70 : decode cX6_kinds 70 = .ok (.goto 41, 3) := by decide +kernel
theorem dX6_kinds_73 : decode cX6_kinds 73 = .ok (.iload_n 2, 1) := by decide +kernel
theorem dX6_kinds_74 : decode cX6_kinds 74 = .ok (.iconst 3, 1) := by decide +kernel
theorem dX6_kinds_75 : decode cX6_kinds 75 = .ok (.if_icmp .ne 23, 3) := by decide +kernel
theorem dX6_kinds_78 : decode cX6_kinds 78 = .ok (.ldc2_w 159, 3) := by decide +kernel
theorem dX6_kinds_81 : decode cX6_kinds 81 = .ok (.aload_n 0, 1) := by decide +kernel
theorem dX6_kinds_82 : decode cX6_kinds 82 = .ok (.getfield 45, 3) := by decide +kernel
theorem dX6_kinds_85 : decode cX6_kinds 85 = .ok (.iload_n 3, 1) := by decide +kernel
theorem dX6_kinds_86 : decode cX6_kinds 86 = .ok (.laload, 1) := by decide +kernel
theorem dX6_kinds_87 : decode cX6_kinds 87 = .ok (.lmul, 1) := by decide +kernel
theorem dX6_kinds_88 : decode cX6_kinds 88 = .ok (.aload_n 0, 1) := by decide +kernel
theorem dX6_kinds_89 : decode cX6_kinds 89 = .ok (.getfield 48, 3) := by decide +kernel
theorem dX6_kinds_92 : decode cX6_kinds 92 = .ok (.iload_n 3, 1) := by decide +kernel
theorem dX6_kinds_93 : decode cX6_kinds 93 = .ok (.laload, 1) := by decide +kernel
theorem dX6_kinds_94 : decode cX6_kinds 94 = .ok (.lsub, 1) := by decide +kernel
theorem dX6_kinds_95 : decode cX6_kinds 95 = .ok (.goto 16, 3) := by decide +kernel
theorem dX6_kinds_98 : decode cX6_kinds 98 = .ok (.aload_n 0, 1) := by decide +kernel
theorem dX6_kinds_99 : decode cX6_kinds 99 = .ok (.getfield 48, 3) := by decide +kernel
theorem dX6_kinds_102 : decode cX6_kinds 102 = .ok (.iload_n 3, 1) := by decide +kernel
theorem dX6_kinds_103 : decode cX6_kinds 103 = .ok (.laload, 1) := by decide +kernel
theorem dX6_kinds_104 : decode cX6_kinds 104 = .ok (.aload_n 0, 1) := by decide +kernel
theorem dX6_kinds_105 : decode cX6_kinds 105 = .ok (.getfield 45, 3) := by decide +kernel
theorem dX6_kinds_108 : decode cX6_kinds 108 = .ok (.iload_n 3, 1) := by decide +kernel
theorem dX6_kinds_109 : decode cX6_kinds 109 = .ok (.laload, 1) := by decide +kernel
theorem dX6_kinds_110 : decode cX6_kinds 110 = .ok (.ladd, 1) := by decide +kernel
theorem dX6_kinds_111 : decode cX6_kinds 111 = .ok (.invokevirtual 161, 3) := by decide +kernel
theorem dX6_kinds_114 : decode cX6_kinds 114 = .ok (.iinc 3 1, 3) := by decide +kernel
theorem dX6_kinds_117 : decode cX6_kinds 117 = .ok (.goto (-70), 3) := by decide +kernel
theorem dX6_kinds_120 : decode cX6_kinds 120 = .ok (.aload_n 0, 1) := by decide +kernel
theorem dX6_kinds_121 : decode cX6_kinds 121 = .ok (.iload_n 1, 1) := by decide +kernel
theorem dX6_kinds_122 : decode cX6_kinds 122 = .ok (.invokevirtual 150, 3) := by decide +kernel
theorem dX6_kinds_125 : decode cX6_kinds 125 = .ok (.pop2, 1) := by decide +kernel
theorem dX6_kinds_126 : decode cX6_kinds 126 = .ok (.return_, 1) := by decide +kernel
set_option maxRecDepth 20000 in
theorem ggX6_turned_X6_all : GoodIn wsX6_turned wsX6_all := goodIn_r _ [8, 1, 35, 36, 37, 38, 39, 40, 41, 42, 43, 44, 45, 46, 47, 48, 49, 50, 51, 52, 53] (by decide +kernel) (by decide +kernel)
set_option maxRecDepth 20000 in
theorem gX6_turned_X6_all : GoodIn wsX6_turned (wsV RX6 102 RX6 yX6_all wsX6_all) := goodIn_app (goodIn_of _ (by decide +kernel)) ggX6_turned_X6_all
set_option maxRecDepth 20000 in
theorem ggX6_turned_X6_minor : GoodIn wsX6_turned wsX6_minor := goodIn_r _ [12, 13, 14, 15, 16, 7, 17, 18, 19, 20, 21, 1, 22, 23, 24, 25, 26, 27, 28, 29, 30, 31, 32, 33, 34, 35, 36, 37, 38, 39, 40, 41, 42, 43, 44, 45, 46, 47, 48, 49, 50, 51, 52, 53] (by decide +kernel) (by decide +kernel)
set_option maxRecDepth 20000 in
theorem gX6_turned_X6_minor : GoodIn wsX6_turned (wsV RX6 106 RX6 yX6_minor wsX6_minor) := goodIn_app (goodIn_of _ (by decide +kernel)) ggX6_turned_X6_minor
theorem dX6_turned_0 : decode cX6_turned 0 = .ok (.lconst 0, 1) := by decide +kernel
theorem dX6_turned_1 : decode cX6_turned 1 = .ok (.lstore 5, 2) := by decide +kernel
theorem dX6_turned_3 : decode cX6_turned 3 = .ok (.iconst 1, 1) := by decide +kernel
theorem dX6_turned_4 : decode cX6_turned 4 = .ok (.istore 7, 2) := by decide +kernel
theorem dX6_turned_6 : decode cX6_turned 6 = .ok (.iload 7, 2) := by decide +kernel
theorem dX6_turned_8 : decode cX6_turned 8 = .ok (.aload_n 0, 1) := by decide +kernel
theorem dX6_turned_9 : decode cX6_turned 9 = .ok (.getfield 7, 3) := by decide +kernel
theorem dX6_turned_12 : decode cX6_turned 12 = .ok (.iload_n 1, 1) := by decide +kernel
theorem dX6_turned_13 : decode cX6_turned 13 = .ok (.iaload, 1) := by decide +kernel
theorem dX6_turned_14 : decode cX6_turned 14 = .ok (.if_icmp .ge 108, 3) := by decide +kernel
theorem dX6_turned_17 : decode cX6_turned 17 = .ok (.aload_n 0, 1) := by decide +kernel
theorem dX6_turned_18 : decode cX6_turned 18 = .ok (.getfield 23, 3) := by decide +kernel
theorem dX6_turned_21 : decode cX6_turned 21 = .ok (.bipush 8, 2) := by decide +kernel
theorem dX6_turned_23 : decode cX6_turned 23 = .ok (.iload_n 3, 1) := by decide +kernel
theorem dX6_turned_24 : decode cX6_turned 24 = .ok (.imul, 1) := by decide +kernel
theorem dX6_turned_25 : decode cX6_turned 25 = .ok (.iload 7, 2) := by decide +kernel
theorem dX6_turned_27 : decode cX6_turned 27 = .ok (.iadd, 1) := by decide +kernel
theorem dX6_turned_28 : decode cX6_turned 28 = .ok (.laload, 1) := by decide +kernel
theorem dX6_turned_29 : decode cX6_turned 29 = .ok (.iload 4, 2) := by decide +kernel
theorem dX6_turned_31 : decode cX6_turned 31 = .ok (.iconst (-1), 1) := by decide +kernel
theorem dX6_turned_32 : decode cX6_turned 32 = .ok (.if_icmp .ne 7, 3) := by decide +kernel
theorem dX6_turned_35 : decode cX6_turned 35 = .ok (.lconst 0, 1) := by decide +kernel
theorem dX6_turned_36 : decode cX6_turned 36 = .ok (.goto 16, 3) := by decide +kernel
theorem dX6_turned_39 : decode cX6_turned 39 = .ok (.aload_n 0, 1) := by decide +kernel
theorem dX6_turned_40 : decode cX6_turned 40 = .ok (.getfield 23, 3) := by decide +kernel
theorem dX6_turned_43 : decode cX6_turned 43 = .ok (.bipush 8, 2) := by decide +kernel
theorem dX6_turned_45 : decode cX6_turned 45 = .ok (.iload 4, 2) := by decide +kernel
theorem dX6_turned_47 : decode cX6_turned 47 = .ok (.imul, 1) := by decide +kernel
theorem dX6_turned_48 : decode cX6_turned 48 = .ok (.iload 7, 2) := by decide +kernel
theorem dX6_turned_50 : decode cX6_turned 50 = .ok (.iadd, 1) := by decide +kernel
theorem dX6_turned_51 : decode cX6_turned 51 = .ok (.laload, 1) := by decide +kernel
theorem dX6_turned_52 : decode cX6_turned 52 = .ok (.lsub, 1) := by decide +kernel
theorem dX6_turned_53 : decode cX6_turned 53 = .ok (.lstore 8, 2) := by decide +kernel
theorem dX6_turned_55 : decode cX6_turned 55 = .ok (.iload_n 2, 1) := by decide +kernel
theorem dX6_turned_56 : decode cX6_turned 56 = .ok (.iload 7, 2) := by decide +kernel
theorem dX6_turned_58 : decode cX6_turned 58 = .ok (.iadd, 1) := by decide +kernel
theorem dX6_turned_59 : decode cX6_turned 59 = .ok (.iconst 2, 1) := by decide +kernel
theorem dX6_turned_60 : decode cX6_turned 60 = .ok (.irem, 1) := by decide +kernel
theorem dX6_turned_61 : decode cX6_turned 61 = .ok (.ifCond .ne 7, 3) := by decide +kernel
theorem dX6_turned_64 : decode cX6_turned 64 = .ok (.lconst 1, 1) := by decide +kernel
theorem dX6_turned_65 : decode cX6_turned 65 = .ok (.goto 6, 3) := by decide +kernel
theorem dX6_turned_68 : decode cX6_turned 68 = .ok (.ldc2_w 172, 3) := by decide +kernel
theorem dX6_turned_71 : decode cX6_turned 71 = .ok (.lstore 10, 2) := by decide +kernel
theorem dX6_turned_73 : decode cX6_turned 73 = .ok (.lload 5, 2) := by decide +kernel
theorem dX6_turned_75 : decode cX6_turned 75 = .ok (.lload 8, 2) := by decide +kernel
theorem dX6_turned_77 : decode cX6_turned 77 = .ok (.lload 10, 2) := by decide +kernel
theorem dX6_turned_79 : decode cX6_turned 79 = .ok (.lmul, 1) := by decide +kernel
theorem dX6_turned_80 : decode cX6_turned 80 = .ok (.aload_n 0, 1) := by decide +kernel
theorem dX6_turned_81 : decode cX6_turned 81 = .ok (.iload_n 1, 1) := by decide +kernel
theorem dX6_turned_82 : decode cX6_turned 82 = .ok (.aload_n 0, 1) := by decide +kernel
theorem dX6_turned_83 : decode cX6_turned 83 = .ok (.iload_n 1, 1) := by decide +kernel
theorem dX6_turned_84 : decode cX6_turned 84 = .ok (.invokevirtual 102, 3) := by decide +kernel
theorem dX6_turned_87 : decode cX6_turned 87 = .ok (.iconst 1, 1) := by decide +kernel
theorem dX6_turned_88 : decode cX6_turned 88 = .ok (.iload 7, 2) := by decide +kernel
theorem dX6_turned_90 : decode cX6_turned 90 = .ok (.iconst 1, 1) := by decide +kernel
theorem dX6_turned_91 : decode cX6_turned 91 = .ok (.isub, 1) := by decide +kernel
theorem dX6_turned_92 : decode cX6_turned 92 = .ok (.ishl, 1) := by decide +kernel
theorem dX6_turned_93 : decode cX6_turned 93 = .ok (.iconst (-1), 1) := by decide +kernel
theorem dX6_turned_94 : decode cX6_turned 94 = .ok (.ixor, 1) := by decide +kernel
theorem dX6_turned_95 : decode cX6_turned 95 = .ok (.iand, 1) := by decide +kernel
theorem dX6_turned_96 : decode cX6_turned 96 = .ok (.aload_n 0, 1) := by decide +kernel
theorem dX6_turned_97 : decode cX6_turned 97 = .ok (.iload_n 1, 1) := by decide +kernel
theorem dX6_turned_98 : decode cX6_turned 98 = .ok (.invokevirtual 102, 3) := by decide +kernel
theorem dX6_turned_101 : decode cX6_turned 101 = .ok (.iconst 1, 1) := by decide +kernel
theorem dX6_turned_102 : decode cX6_turned 102 = .ok (.iload_n 2, 1) := by decide +kernel
theorem dX6_turned_103 : decode cX6_turned 103 = .ok (.iconst 1, 1) := by decide +kernel
theorem dX6_turned_104 : decode cX6_turned 104 = .ok (.isub, 1) := by decide +kernel
theorem dX6_turned_105 : decode cX6_turned 105 = .ok (.ishl, 1) := by decide +kernel
theorem dX6_turned_106 : decode cX6_turned 106 = .ok (.iconst (-1), 1) := by decide +kernel
theorem dX6_turned_107 : decode cX6_turned 107 = .ok (.ixor, 1) := by decide +kernel
theorem dX6_turned_108 : decode cX6_turned 108 = .ok (.iand, 1) := by decide +kernel
theorem dX6_turned_109 : decode cX6_turned 109 = .ok (.invokevirtual 106, 3) := by decide +kernel
theorem dX6_turned_112 : decode cX6_turned 112 = .ok (.lmul, 1) := by decide +kernel
theorem dX6_turned_113 : decode cX6_turned 113 = .ok (.ladd, 1) := by decide +kernel
theorem dX6_turned_114 : decode cX6_turned 114 = .ok (.lstore 5, 2) := by decide +kernel
theorem dX6_turned_116 : decode cX6_turned 116 = .ok (.iinc 7 1, 3) := by decide +kernel
theorem dX6_turned_119 : decode cX6_turned 119 = .ok (.goto (-113), 3) := by decide +kernel
theorem dX6_turned_122 : decode cX6_turned 122 = .ok (.lload 5, 2) := by decide +kernel
theorem dX6_turned_124 : decode cX6_turned 124 = .ok (.lreturn, 1) := by decide +kernel
set_option maxRecDepth 20000 in
theorem ggX6_alike_X6_isHeap : GoodIn wsX6_alike wsX6_isHeap := goodIn_r _ [8, 9, 1, 10, 11, 12, 7, 13, 54, 55, 56, 57, 58, 59, 60, 61, 62, 63, 64, 65, 66, 67, 68, 69, 70, 71, 72] (by decide +kernel) (by decide +kernel)
set_option maxRecDepth 20000 in
theorem gX6_alike_X6_isHeap : GoodIn wsX6_alike (wsV RX6 132 RX6 yX6_isHeap wsX6_isHeap) := goodIn_app (goodIn_of _ (by decide +kernel)) ggX6_alike_X6_isHeap
set_option maxRecDepth 20000 in
theorem ggX6_alike_X6_right : GoodIn wsX6_alike wsX6_right := goodIn_r _ [13, 9, 54, 55, 56, 57, 58, 59, 60, 61, 62, 63, 64, 65, 66, 67, 68, 69, 70, 71, 72] (by decide +kernel) (by decide +kernel)
set_option maxRecDepth 20000 in
theorem gX6_alike_X6_right : GoodIn wsX6_alike (wsV RX6 67 RX6 yX6_right wsX6_right) := goodIn_app (goodIn_of _ (by decide +kernel)) ggX6_alike_X6_right
set_option maxRecDepth 20000 in
theorem ggX6_alike_X6_treesOf : GoodIn wsX6_alike wsX6_treesOf := goodIn_r _ [17, 18, 19, 20, 7, 21, 3, 22, 23, 24, 25, 26, 27, 28, 29, 30, 31, 32, 33, 34, 35, 36, 37, 38, 39, 40, 41, 42, 43, 44, 45, 46, 47, 54, 55, 56, 57, 58, 59, 60, 61, 62, 63, 64, 65, 66, 67, 68, 69, 70, 71, 72] (by decide +kernel) (by decide +kernel)
set_option maxRecDepth 20000 in
theorem gX6_alike_X6_treesOf : GoodIn wsX6_alike (wsV RX6 109 RX6 yX6_treesOf wsX6_treesOf) := goodIn_app (goodIn_of _ (by decide +kernel)) ggX6_alike_X6_treesOf
set_option maxRecDepth 20000 in
theorem ggX6_alike_X6_turned : GoodIn wsX6_alike wsX6_turned := goodIn_r _ [51, 3, 52, 53, 18, 19, 20, 7, 21, 22, 23, 24, 25, 26, 27, 28, 29, 30, 31, 32, 33, 34, 35, 36, 37, 38, 39, 40, 41, 42, 43, 44, 45, 46, 47, 54, 55, 56, 57, 58, 59, 60, 61, 62, 63, 64, 65, 66, 67, 68, 69, 70, 71, 72] (by decide +kernel) (by decide +kernel)
set_option maxRecDepth 20000 in
theorem gX6_alike_X6_turned : GoodIn wsX6_alike (wsV RX6 174 RX6 yX6_turned wsX6_turned) := goodIn_app (goodIn_of _ (by decide +kernel)) ggX6_alike_X6_turned
theorem dX6_alike_0 : decode cX6_alike 0 = .ok (.aload_n 0, 1) := by decide +kernel
theorem dX6_alike_1 : decode cX6_alike 1 = .ok (.iload_n 1, 1) := by decide +kernel
theorem dX6_alike_2 : decode cX6_alike 2 = .ok (.invokevirtual 132, 3) := by decide +kernel
theorem dX6_alike_5 : decode cX6_alike 5 = .ok (.ifCond .eq 56, 3) := by decide +kernel
theorem dX6_alike_8 : decode cX6_alike 8 = .ok (.aload_n 0, 1) := by decide +kernel
theorem dX6_alike_9 : decode cX6_alike 9 = .ok (.iload_n 2, 1) := by decide +kernel
theorem dX6_alike_10 : decode cX6_alike 10 = .ok (.ifCond .lt 15, 3) := by decide +kernel
theorem dX6_alike_13 : decode cX6_alike 13 = .ok (.iload_n 2, 1) := by decide +kernel

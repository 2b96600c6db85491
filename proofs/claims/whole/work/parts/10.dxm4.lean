theorem dX6_alike_14 : decode cX6_alike 14 = .ok (.aload_n 0, 1) := by decide +kernel
theorem dX6_alike_15 : decode cX6_alike 15 = .ok (.getfield 126, 3) := by decide +kernel
theorem dX6_alike_18 : decode cX6_alike 18 = .ok (.if_icmp .ge 7, 3) := by decide +kernel
theorem dX6_alike_21 : decode cX6_alike 21 = .ok (.iconst 1, 1) := by decide +kernel
theorem dX6_alike_22 : decode cX6_alike 22 = .ok (.goto 4, 3) := by decide +kernel
theorem dX6_alike_25 : decode cX6_alike 25 = .ok (.iconst 0, 1) := by decide +kernel
theorem dX6_alike_26 : decode cX6_alike 26 = .ok (.iconst 1, 1) := by decide +kernel
theorem dX6_alike_27 : decode cX6_alike 27 = .ok (.invokevirtual 67, 3) := by decide +kernel
theorem dX6_alike_30 : decode cX6_alike 30 = .ok (.ifCond .eq 31, 3) := by decide +kernel
theorem dX6_alike_33 : decode cX6_alike 33 = .ok (.aload_n 0, 1) := by decide +kernel
theorem dX6_alike_34 : decode cX6_alike 34 = .ok (.aload_n 0, 1) := by decide +kernel
theorem dX6_alike_35 : decode cX6_alike 35 = .ok (.getfield 16, 3) := by decide +kernel
theorem dX6_alike_38 : decode cX6_alike 38 = .ok (.iload_n 1, 1) := by decide +kernel
theorem dX6_alike_39 : decode cX6_alike 39 = .ok (.iaload, 1) := by decide +kernel
theorem dX6_alike_40 : decode cX6_alike 40 = .ok (.aload_n 0, 1) := by decide +kernel
theorem dX6_alike_41 : decode cX6_alike 41 = .ok (.getfield 16, 3) := by decide +kernel
theorem dX6_alike_44 : decode cX6_alike 44 = .ok (.iload_n 2, 1) := by decide +kernel
theorem dX6_alike_45 : decode cX6_alike 45 = .ok (.iaload, 1) := by decide +kernel
theorem dX6_alike_46 : decode cX6_alike 46 = .ok (.if_icmp .ne 7, 3) := by decide +kernel
theorem dX6_alike_49 : decode cX6_alike 49 = .ok (.iconst 1, 1) := by decide +kernel
theorem dX6_alike_50 : decode cX6_alike 50 = .ok (.goto 4, 3) := by decide +kernel
theorem dX6_alike_53 : decode cX6_alike 53 = .ok (.iconst 0, 1) := by decide +kernel
theorem dX6_alike_54 : decode cX6_alike 54 = .ok (.iconst 2, 1) := by decide +kernel
theorem dX6_alike_55 : decode cX6_alike 55 = .ok (.invokevirtual 67, 3) := by decide +kernel
theorem dX6_alike_58 : decode cX6_alike 58 = .ok (.ifCond .ne 5, 3) := by decide +kernel
theorem dX6_alike_61 : decode cX6_alike 61 = .ok (.iconst 0, 1) := by decide +kernel
theorem dX6_alike_62 : decode cX6_alike 62 = .ok (.ireturn, 1) := by decide +kernel
theorem dX6_alike_63 : decode cX6_alike 63 = .ok (.aload_n 0, 1) := by decide +kernel
theorem dX6_alike_64 : decode cX6_alike 64 = .ok (.getfield 16, 3) := by decide +kernel
theorem dX6_alike_67 : decode cX6_alike 67 = .ok (.iload_n 1, 1) := by decide +kernel
theorem dX6_alike_68 : decode cX6_alike 68 = .ok (.iaload, 1) := by decide +kernel
theorem dX6_alike_69 : decode cX6_alike 69 = .ok (.istore_n 3, 1) := by decide +kernel
theorem dX6_alike_70 : decode cX6_alike 70 = .ok (.aload_n 0, 1) := by decide +kernel
theorem dX6_alike_71 : decode cX6_alike 71 = .ok (.iload_n 3, 1) := by decide +kernel
theorem dX6_alike_72 : decode cX6_alike 72 = .ok (.invokevirtual 109, 3) := by decide +kernel
theorem dX6_alike_75 : decode cX6_alike 75 = .ok (.lstore 4, 2) := by decide +kernel
theorem dX6_alike_77 : decode cX6_alike 77 = .ok (.iconst 1, 1) := by decide +kernel
theorem dX6_alike_78 : decode cX6_alike 78 = .ok (.istore 6, 2) := by decide +kernel
theorem dX6_alike_80 : decode cX6_alike 80 = .ok (.iconst 1, 1) := by decide +kernel
theorem dX6_alike_81 : decode cX6_alike 81 = .ok (.istore 7, 2) := by decide +kernel
theorem dX6_alike_83 : decode cX6_alike 83 = .ok (.iload 7, 2) := by decide +kernel
theorem dX6_alike_85 : decode cX6_alike 85 = .ok (.aload_n 0, 1) := by decide +kernel
theorem dX6_alike_86 : decode cX6_alike 86 = .ok (.getfield 7, 3) := by decide +kernel
theorem dX6_alike_89 : decode cX6_alike 89 = .ok (.iload_n 3, 1) := by decide +kernel
theorem dX6_alike_90 : decode cX6_alike 90 = .ok (.iaload, 1) := by decide +kernel
theorem dX6_alike_91 : decode cX6_alike 91 = .ok (.if_icmp .ge 38, 3) := by decide +kernel
theorem dX6_alike_94 : decode cX6_alike 94 = .ok (.iload 6, 2) := by decide +kernel
theorem dX6_alike_96 : decode cX6_alike 96 = .ok (.ifCond .eq 24, 3) := by decide +kernel
theorem dX6_alike_99 : decode cX6_alike 99 = .ok (.aload_n 0, 1) := by decide +kernel
theorem dX6_alike_100 : decode cX6_alike 100 = .ok (.iload_n 3, 1) := by decide +kernel
theorem dX6_alike_101 : decode cX6_alike 101 = .ok (.iload 7, 2) := by decide +kernel
theorem dX6_alike_103 : decode cX6_alike 103 = .ok (.iload_n 1, 1) := by decide +kernel
theorem dX6_alike_104 : decode cX6_alike 104 = .ok (.iload_n 2, 1) := by decide +kernel
theorem dX6_alike_105 : decode cX6_alike 105 = .ok (.invokevirtual 174, 3) := by decide +kernel
theorem dX6_alike_108 : decode cX6_alike 108 = .ok (.lload 4, 2) := by decide +kernel
theorem dX6_alike_110 : decode cX6_alike 110 = .ok (.lrem, 1) := by decide +kernel
theorem dX6_alike_111 : decode cX6_alike 111 = .ok (.lconst 0, 1) := by decide +kernel
theorem dX6_alike_112 : decode cX6_alike 112 = .ok (.lcmp, 1) := by decide +kernel
theorem dX6_alike_113 : decode cX6_alike 113 = .ok (.ifCond .ne 7, 3) := by decide +kernel
theorem dX6_alike_116 : decode cX6_alike 116 = .ok (.iconst 1, 1) := by decide +kernel
theorem dX6_alike_117 : decode cX6_alike 117 = .ok (.goto 4, 3) := by decide +kernel
theorem dX6_alike_120 : decode cX6_alike 120 = .ok (.iconst 0, 1) := by decide +kernel
theorem dX6_alike_121 : decode cX6_alike 121 = .ok (.istore 6, 2) := by decide +kernel
theorem dX6_alike_123 : decode cX6_alike 123 = .ok (.iinc 7 1, 3) := by decide +kernel
theorem dX6_alike_126 : decode cX6_alike 126 = .ok (.goto (-43), 3) := by decide +kernel
theorem dX6_alike_129 : decode cX6_alike 129 = .ok (.iload 6, 2) := by decide +kernel
theorem dX6_alike_131 : decode cX6_alike 131 = .ok (.ireturn, 1) := by decide +kernel
set_option maxRecDepth 20000 in
theorem ggX6_order_X6_isHeap : GoodIn wsX6_order wsX6_isHeap := goodIn_r _ [7, 8, 9, 10, 11, 12, 6, 13, 57, 58, 59, 60, 61, 62, 63, 64, 65, 66, 67, 68, 69, 70, 71, 72, 73, 74, 75] (by decide +kernel) (by decide +kernel)
set_option maxRecDepth 20000 in
theorem gX6_order_X6_isHeap : GoodIn wsX6_order (wsV RX6 132 RX6 yX6_isHeap wsX6_isHeap) := goodIn_app (goodIn_of _ (by decide +kernel)) ggX6_order_X6_isHeap
set_option maxRecDepth 20000 in
theorem ggX6_order_X6_treesOf : GoodIn wsX6_order wsX6_treesOf := goodIn_r _ [17, 18, 19, 20, 6, 21, 2, 22, 23, 24, 25, 26, 27, 28, 29, 30, 31, 32, 33, 34, 35, 36, 37, 38, 39, 40, 41, 42, 43, 44, 45, 46, 47, 57, 58, 59, 60, 61, 62, 63, 64, 65, 66, 67, 68, 69, 70, 71, 72, 73, 74, 75] (by decide +kernel) (by decide +kernel)
set_option maxRecDepth 20000 in
theorem gX6_order_X6_treesOf : GoodIn wsX6_order (wsV RX6 109 RX6 yX6_treesOf wsX6_treesOf) := goodIn_app (goodIn_of _ (by decide +kernel)) ggX6_order_X6_treesOf
set_option maxRecDepth 20000 in
theorem ggX6_order_X6_turned : GoodIn wsX6_order wsX6_turned := goodIn_r _ [51, 2, 52, 53, 18, 19, 20, 6, 21, 22, 23, 24, 25, 26, 27, 28, 29, 30, 31, 32, 33, 34, 35, 36, 37, 38, 39, 40, 41, 42, 43, 44, 45, 46, 47, 57, 58, 59, 60, 61, 62, 63, 64, 65, 66, 67, 68, 69, 70, 71, 72, 73, 74, 75] (by decide +kernel) (by decide +kernel)
set_option maxRecDepth 20000 in
theorem gX6_order_X6_turned : GoodIn wsX6_order (wsV RX6 174 RX6 yX6_turned wsX6_turned) := goodIn_app (goodIn_of _ (by decide +kernel)) ggX6_order_X6_turned
set_option maxRecDepth 20000 in
theorem ggX6_order_X6_common : GoodIn wsX6_order wsX6_common := goodIn_r _ [56] (by decide +kernel) (by decide +kernel)
set_option maxRecDepth 20000 in
theorem gX6_order_X6_common : GoodIn wsX6_order (va_wsS RX6 115 yX6_common wsX6_common) := goodIn_app (goodIn_of _ (by decide +kernel)) ggX6_order_X6_common
theorem dX6_order_0 : decode cX6_order 0 = .ok (.aload_n 0, 1) := by decide +kernel
theorem dX6_order_1 : decode cX6_order 1 = .ok (.iload_n 1, 1) := by decide +kernel
theorem dX6_order_2 : decode cX6_order 2 = .ok (.invokevirtual 132, 3) := by decide +kernel
theorem dX6_order_5 : decode cX6_order 5 = .ok (.ifCond .ne 5, 3) := by decide +kernel
theorem dX6_order_8 : decode cX6_order 8 = .ok (.lconst 0, 1) := by decide +kernel
theorem dX6_order_9 : decode cX6_order 9 = .ok (.lreturn, 1) := by decide +kernel
theorem dX6_order_10 : decode cX6_order 10 = .ok (.aload_n 0, 1) := by decide +kernel
theorem dX6_order_11 : decode cX6_order 11 = .ok (.getfield 16, 3) := by decide +kernel
theorem dX6_order_14 : decode cX6_order 14 = .ok (.iload_n 1, 1) := by decide +kernel
theorem dX6_order_15 : decode cX6_order 15 = .ok (.iaload, 1) := by decide +kernel
theorem dX6_order_16 : decode cX6_order 16 = .ok (.istore_n 2, 1) := by decide +kernel
theorem dX6_order_17 : decode cX6_order 17 = .ok (.aload_n 0, 1) := by decide +kernel
theorem dX6_order_18 : decode cX6_order 18 = .ok (.iload_n 2, 1) := by decide +kernel
theorem dX6_order_19 : decode cX6_order 19 = .ok (.invokevirtual 109, 3) := by decide +kernel
theorem dX6_order_22 : decode cX6_order 22 = .ok (.lstore_n 3, 1) := by decide +kernel
theorem dX6_order_23 : decode cX6_order 23 = .ok (.lload_n 3, 1) := by decide +kernel
theorem dX6_order_24 : decode cX6_order 24 = .ok (.lstore 5, 2) := by decide +kernel
theorem dX6_order_26 : decode cX6_order 26 = .ok (.iconst 1, 1) := by decide +kernel
theorem dX6_order_27 : decode cX6_order 27 = .ok (.istore 7, 2) := by decide +kernel
theorem dX6_order_29 : decode cX6_order 29 = .ok (.iload 7, 2) := by decide +kernel
theorem dX6_order_31 : decode cX6_order 31 = .ok (.aload_n 0, 1) := by decide +kernel
theorem dX6_order_32 : decode cX6_order 32 = .ok (.getfield 7, 3) := by decide +kernel
theorem dX6_order_35 : decode cX6_order 35 = .ok (.iload_n 2, 1) := by decide +kernel
theorem dX6_order_36 : decode cX6_order 36 = .ok (.iaload, 1) := by decide +kernel
theorem dX6_order_37 : decode cX6_order 37 = .ok (.if_icmp .ge 25, 3) := by decide +kernel
theorem dX6_order_40 : decode cX6_order 40 = .ok (.lload 5, 2) := by decide +kernel
theorem dX6_order_42 : decode cX6_order 42 = .ok (.aload_n 0, 1) := by decide +kernel
theorem dX6_order_43 : decode cX6_order 43 = .ok (.iload_n 2, 1) := by decide +kernel
theorem dX6_order_44 : decode cX6_order 44 = .ok (.iload 7, 2) := by decide +kernel
theorem dX6_order_46 : decode cX6_order 46 = .ok (.iload_n 1, 1) := by decide +kernel
theorem dX6_order_47 : decode cX6_order 47 = .ok (.iconst (-1), 1) := by decide +kernel
theorem dX6_order_48 : decode cX6_order 48 = .ok (.invokevirtual 174, 3) := by decide +kernel
theorem dX6_order_51 : decode cX6_order 51 = .ok (.invokestatic 115, 3) := by decide +kernel
theorem dX6_order_54 : decode cX6_order 54 = .ok (.lstore 5, 2) := by decide +kernel
theorem dX6_order_56 : decode cX6_order 56 = .ok (.iinc 7 1, 3) := by decide +kernel
theorem dX6_order_59 : decode cX6_order 59 = .ok (.goto (-30), 3) := by decide +kernel
theorem dX6_order_62 : decode cX6_order 62 = .ok (.lload_n 3, 1) := by decide +kernel
theorem dX6_order_63 : decode cX6_order 63 = .ok (.lload 5, 2) := by decide +kernel
theorem dX6_order_65 : decode cX6_order 65 = .ok (.ldiv, 1) := by decide +kernel
theorem dX6_order_66 : decode cX6_order 66 = .ok (.lreturn, 1) := by decide +kernel
set_option maxRecDepth 20000 in
theorem ggX6_tree_X6_isHeap : GoodIn wsX6_tree wsX6_isHeap := goodIn_r _ [8, 9, 10, 11, 12, 13, 7, 14, 49, 50, 51, 52, 53, 54, 55, 56, 57, 58, 59, 60, 61, 62, 63, 64, 65, 66, 67] (by decide +kernel) (by decide +kernel)
set_option maxRecDepth 20000 in
theorem gX6_tree_X6_isHeap : GoodIn wsX6_tree (wsV RX6 132 RX6 yX6_isHeap wsX6_isHeap) := goodIn_app (goodIn_of _ (by decide +kernel)) ggX6_tree_X6_isHeap
set_option maxRecDepth 20000 in
theorem ggX6_tree_X6_isIn : GoodIn wsX6_tree wsX6_isIn := goodIn_r _ [18, 19, 20, 21, 7, 22, 23, 1, 11, 12, 13, 14, 9, 49, 50, 51, 52, 53, 54, 55, 56, 57, 58, 59, 60, 61, 62, 63, 64, 65, 66, 67] (by decide +kernel) (by decide +kernel)
set_option maxRecDepth 20000 in
theorem gX6_tree_X6_isIn : GoodIn wsX6_tree (wsV RX6 135 RX6 yX6_isIn wsX6_isIn) := goodIn_app (goodIn_of _ (by decide +kernel)) ggX6_tree_X6_isIn
set_option maxRecDepth 20000 in
theorem ggX6_tree_X6_right : GoodIn wsX6_tree wsX6_right := goodIn_r _ [14, 9, 49, 50, 51, 52, 53, 54, 55, 56, 57, 58, 59, 60, 61, 62, 63, 64, 65, 66, 67] (by decide +kernel) (by decide +kernel)
set_option maxRecDepth 20000 in
theorem gX6_tree_X6_right : GoodIn wsX6_tree (wsV RX6 67 RX6 yX6_right wsX6_right) := goodIn_app (goodIn_of _ (by decide +kernel)) ggX6_tree_X6_right
set_option maxRecDepth 20000 in
theorem ggX6_tree_X6_comesAgain : GoodIn wsX6_tree wsX6_comesAgain := goodIn_r _ [27, 28, 29, 30, 7, 31, 19, 20, 21, 22, 23, 1, 32, 33, 34, 35, 3, 36, 37, 38, 39, 40, 41, 42, 43, 44, 45, 46, 47, 48, 2, 49, 50, 51, 52, 53, 54, 55, 56, 57, 58, 59, 60, 61, 62, 63, 64, 65, 66, 67] (by decide +kernel) (by decide +kernel)
set_option maxRecDepth 20000 in
theorem gX6_tree_X6_comesAgain : GoodIn wsX6_tree (wsV RX6 156 RX6 yX6_comesAgain wsX6_comesAgain) := goodIn_app (goodIn_of _ (by decide +kernel)) ggX6_tree_X6_comesAgain
set_option maxRecDepth 20000 in
theorem ggX6_tree_X6_degreeOf : GoodIn wsX6_tree wsX6_degreeOf := goodIn_r _ [39, 23, 40, 41, 42, 7, 43, 44, 49, 50, 51, 52, 53, 54, 55, 56, 57, 58, 59, 60, 61, 62, 63, 64, 65, 66, 67] (by decide +kernel) (by decide +kernel)
set_option maxRecDepth 20000 in
theorem gX6_tree_X6_degreeOf : GoodIn wsX6_tree (wsV RX6 83 RX6 yX6_degreeOf wsX6_degreeOf) := goodIn_app (goodIn_of _ (by decide +kernel)) ggX6_tree_X6_degreeOf
set_option maxRecDepth 20000 in
theorem ggX6_tree_X6_size : GoodIn wsX6_tree wsX6_size := goodIn_r _ [22, 23, 1, 49, 50, 51, 52, 53, 54, 55, 56, 57, 58, 59, 60, 61, 62, 63, 64, 65, 66, 67] (by decide +kernel) (by decide +kernel)
set_option maxRecDepth 20000 in
theorem gX6_tree_X6_size : GoodIn wsX6_tree (wsV RX6 129 RX6 yX6_size wsX6_size) := goodIn_app (goodIn_of _ (by decide +kernel)) ggX6_tree_X6_size
set_option maxRecDepth 20000 in
theorem ggX6_tree_X6_between : GoodIn wsX6_tree wsX6_between := goodIn_r _ [43, 44, 49, 50, 51, 52, 53, 54, 55, 56, 57, 58, 59, 60, 61, 62, 63, 64, 65, 66, 67] (by decide +kernel) (by decide +kernel)
set_option maxRecDepth 20000 in
theorem gX6_tree_X6_between : GoodIn wsX6_tree (wsV RX6 79 RX6 yX6_between wsX6_between) := goodIn_app (goodIn_of _ (by decide +kernel)) ggX6_tree_X6_between
theorem dX6_tree_0 : decode cX6_tree 0 = .ok (.aload_n 0, 1) := by decide +kernel
theorem dX6_tree_1 : decode cX6_tree 1 = .ok (.iload_n 1, 1) := by decide +kernel
theorem dX6_tree_2 : decode cX6_tree 2 = .ok (.invokevirtual 132, 3) := by decide +kernel
theorem dX6_tree_5 : decode cX6_tree 5 = .ok (.ifCond .eq 48, 3) := by decide +kernel
theorem dX6_tree_8 : decode cX6_tree 8 = .ok (.aload_n 0, 1) := by decide +kernel
theorem dX6_tree_9 : decode cX6_tree 9 = .ok (.iload_n 1, 1) := by decide +kernel
theorem dX6_tree_10 : decode cX6_tree 10 = .ok (.iload_n 2, 1) := by decide +kernel
theorem dX6_tree_11 : decode cX6_tree 11 = .ok (.iconst 1, 1) := by decide +kernel
theorem dX6_tree_12 : decode cX6_tree 12 = .ok (.invokevirtual 135, 3) := by decide +kernel
theorem dX6_tree_15 : decode cX6_tree 15 = .ok (.ifCond .eq 38, 3) := by decide +kernel
theorem dX6_tree_18 : decode cX6_tree 18 = .ok (.aload_n 0, 1) := by decide +kernel
theorem dX6_tree_19 : decode cX6_tree 19 = .ok (.iload_n 3, 1) := by decide +kernel
theorem dX6_tree_20 : decode cX6_tree 20 = .ok (.ifCond .eq 8, 3) := by decide +kernel
theorem dX6_tree_23 : decode cX6_tree 23 = .ok (.iload_n 3, 1) := by decide +kernel
theorem dX6_tree_24 : decode cX6_tree 24 = .ok (.iconst 1, 1) := by decide +kernel
theorem dX6_tree_25 : decode cX6_tree 25 = .ok (.if_icmp .ne 7, 3) := by decide +kernel
theorem dX6_tree_28 : decode cX6_tree 28 = .ok (.iconst 1, 1) := by decide +kernel
theorem dX6_tree_29 : decode cX6_tree 29 = .ok (.goto 4, 3) := by decide +kernel
theorem dX6_tree_32 : decode cX6_tree 32 = .ok (.iconst 0, 1) := by decide +kernel
theorem dX6_tree_33 : decode cX6_tree 33 = .ok (.iconst 1, 1) := by decide +kernel
theorem dX6_tree_34 : decode cX6_tree 34 = .ok (.invokevirtual 67, 3) := by decide +kernel
theorem dX6_tree_37 : decode cX6_tree 37 = .ok (.ifCond .eq 16, 3) := by decide +kernel
theorem dX6_tree_40 : decode cX6_tree 40 = .ok (.aload_n 0, 1) := by decide +kernel
theorem dX6_tree_41 : decode cX6_tree 41 = .ok (.aload_n 0, 1) := by decide +kernel
theorem dX6_tree_42 : decode cX6_tree 42 = .ok (.iload_n 1, 1) := by decide +kernel
theorem dX6_tree_43 : decode cX6_tree 43 = .ok (.invokevirtual 156, 3) := by decide +kernel
theorem dX6_tree_46 : decode cX6_tree 46 = .ok (.iconst 2, 1) := by decide +kernel
theorem dX6_tree_47 : decode cX6_tree 47 = .ok (.invokevirtual 67, 3) := by decide +kernel
theorem dX6_tree_50 : decode cX6_tree 50 = .ok (.ifCond .ne 5, 3) := by decide +kernel
theorem dX6_tree_53 : decode cX6_tree 53 = .ok (.iconst 0, 1) := by decide +kernel
theorem dX6_tree_54 : decode cX6_tree 54 = .ok (.ireturn, 1) := by decide +kernel
theorem dX6_tree_55 : decode cX6_tree 55 = .ok (.aload_n 0, 1) := by decide +kernel
theorem dX6_tree_56 : decode cX6_tree 56 = .ok (.getfield 16, 3) := by decide +kernel
theorem dX6_tree_59 : decode cX6_tree 59 = .ok (.iload_n 1, 1) := by decide +kernel
theorem dX6_tree_60 : decode cX6_tree 60 = .ok (.iaload, 1) := by decide +kernel
theorem dX6_tree_61 : decode cX6_tree 61 = .ok (.istore 4, 2) := by decide +kernel
theorem dX6_tree_63 : decode cX6_tree 63 = .ok (.aload_n 0, 1) := by decide +kernel
theorem dX6_tree_64 : decode cX6_tree 64 = .ok (.getfield 36, 3) := by decide +kernel
theorem dX6_tree_67 : decode cX6_tree 67 = .ok (.iload_n 2, 1) := by decide +kernel
theorem dX6_tree_68 : decode cX6_tree 68 = .ok (.iaload, 1) := by decide +kernel
theorem dX6_tree_69 : decode cX6_tree 69 = .ok (.istore 5, 2) := by decide +kernel
theorem dX6_tree_71 : decode cX6_tree 71 = .ok (.aload_n 0, 1) := by decide +kernel
theorem dX6_tree_72 : decode cX6_tree 72 = .ok (.iload 4, 2) := by decide +kernel
theorem dX6_tree_74 : decode cX6_tree 74 = .ok (.iload_n 2, 1) := by decide +kernel
theorem dX6_tree_75 : decode cX6_tree 75 = .ok (.invokevirtual 83, 3) := by decide +kernel
theorem dX6_tree_78 : decode cX6_tree 78 = .ok (.istore 6, 2) := by decide +kernel
theorem dX6_tree_80 : decode cX6_tree 80 = .ok (.iconst 0, 1) := by decide +kernel
theorem dX6_tree_81 : decode cX6_tree 81 = .ok (.istore 7, 2) := by decide +kernel
theorem dX6_tree_83 : decode cX6_tree 83 = .ok (.iload 7, 2) := by decide +kernel
theorem dX6_tree_85 : decode cX6_tree 85 = .ok (.aload_n 0, 1) := by decide +kernel
theorem dX6_tree_86 : decode cX6_tree 86 = .ok (.iload_n 1, 1) := by decide +kernel
theorem dX6_tree_87 : decode cX6_tree 87 = .ok (.invokevirtual 129, 3) := by decide +kernel
theorem dX6_tree_90 : decode cX6_tree 90 = .ok (.if_icmp .ge 35, 3) := by decide +kernel
theorem dX6_tree_93 : decode cX6_tree 93 = .ok (.aload_n 0, 1) := by decide +kernel
theorem dX6_tree_94 : decode cX6_tree 94 = .ok (.getfield 36, 3) := by decide +kernel
theorem dX6_tree_97 : decode cX6_tree 97 = .ok (.iload 7, 2) := by decide +kernel
theorem dX6_tree_99 : decode cX6_tree 99 = .ok (.iaload, 1) := by decide +kernel
theorem dX6_tree_100 : decode cX6_tree 100 = .ok (.iload 5, 2) := by decide +kernel
theorem dX6_tree_102 : decode cX6_tree 102 = .ok (.if_icmp .ge 17, 3) := by decide +kernel
theorem dX6_tree_105 : decode cX6_tree 105 = .ok (.iload 6, 2) := by decide +kernel
theorem dX6_tree_107 : decode cX6_tree 107 = .ok (.aload_n 0, 1) := by decide +kernel
theorem dX6_tree_108 : decode cX6_tree 108 = .ok (.iload 4, 2) := by decide +kernel
theorem dX6_tree_110 : decode cX6_tree 110 = .ok (.iload_n 2, 1) := by decide +kernel
theorem dX6_tree_111 : decode cX6_tree 111 = .ok (.iload 7, 2) := by decide +kernel
theorem dX6_tree_113 : decode cX6_tree 113 = .ok (.invokevirtual 79, 3) := by decide +kernel
theorem dX6_tree_116 : decode cX6_tree 116 = .ok (.isub, 1) := by decide +kernel
theorem dX6_tree_117 : decode cX6_tree 117 = .ok (.istore 6, 2) := by decide +kernel
theorem dX6_tree_119 : decode cX6_tree 119 = .ok (.iinc 7 1, 3) := by decide +kernel
theorem dX6_tree_122 : decode cX6_tree 122 = .ok (.goto (-39), 3) := by decide +kernel
theorem dX6_tree_125 : decode cX6_tree 125 = .ok (.aload_n 0, 1) := by decide +kernel
theorem dX6_tree_126 : decode cX6_tree 126 = .ok (.getfield 23, 3) := by decide +kernel
theorem dX6_tree_129 : decode cX6_tree 129 = .ok (.bipush 8, 2) := by decide +kernel
theorem dX6_tree_131 : decode cX6_tree 131 = .ok (.iload_n 1, 1) := by decide +kernel
theorem dX6_tree_132 : decode cX6_tree 132 = .ok (.imul, 1) := by decide +kernel
theorem dX6_tree_133 : decode cX6_tree 133 = .ok (.iload_n 2, 1) := by decide +kernel
theorem dX6_tree_134 : decode cX6_tree 134 = .ok (.iadd, 1) := by decide +kernel
theorem dX6_tree_135 : decode cX6_tree 135 = .ok (.laload, 1) := by decide +kernel
theorem dX6_tree_136 : decode cX6_tree 136 = .ok (.l2i, 1) := by decide +kernel
theorem dX6_tree_137 : decode cX6_tree 137 = .ok (.iload 6, 2) := by decide +kernel
theorem dX6_tree_139 : decode cX6_tree 139 = .ok (.isub, 1) := by decide +kernel
theorem dX6_tree_140 : decode cX6_tree 140 = .ok (.istore 7, 2) := by decide +kernel
theorem dX6_tree_142 : decode cX6_tree 142 = .ok (.iconst 0, 1) := by decide +kernel
theorem dX6_tree_143 : decode cX6_tree 143 = .ok (.istore 8, 2) := by decide +kernel
theorem dX6_tree_145 : decode cX6_tree 145 = .ok (.iload 8, 2) := by decide +kernel
theorem dX6_tree_147 : decode cX6_tree 147 = .ok (.aload_n 0, 1) := by decide +kernel
theorem dX6_tree_148 : decode cX6_tree 148 = .ok (.iload_n 1, 1) := by decide +kernel
theorem dX6_tree_149 : decode cX6_tree 149 = .ok (.invokevirtual 129, 3) := by decide +kernel
theorem dX6_tree_152 : decode cX6_tree 152 = .ok (.if_icmp .ge 66, 3) := by decide +kernel
theorem dX6_tree_155 : decode cX6_tree 155 = .ok (.aload_n 0, 1) := by decide +kernel
theorem dX6_tree_156 : decode cX6_tree 156 = .ok (.getfield 36, 3) := by decide +kernel
theorem dX6_tree_159 : decode cX6_tree 159 = .ok (.iload 8, 2) := by decide +kernel
theorem dX6_tree_161 : decode cX6_tree 161 = .ok (.iaload, 1) := by decide +kernel
theorem dX6_tree_162 : decode cX6_tree 162 = .ok (.iload 5, 2) := by decide +kernel
theorem dX6_tree_164 : decode cX6_tree 164 = .ok (.iconst 1, 1) := by decide +kernel
theorem dX6_tree_165 : decode cX6_tree 165 = .ok (.isub, 1) := by decide +kernel
theorem dX6_tree_166 : decode cX6_tree 166 = .ok (.if_icmp .eq 6, 3) := by decide +kernel
theorem dX6_tree_169 : decode cX6_tree 169 = .ok (.goto 43, 3) := by decide +kernel
theorem dX6_tree_172 : decode cX6_tree 172 = .ok (.iload 7, 2) := by decide +kernel
theorem dX6_tree_174 : decode cX6_tree 174 = .ok (.aload_n 0, 1) := by decide +kernel
theorem dX6_tree_175 : decode cX6_tree 175 = .ok (.iload 4, 2) := by decide +kernel
theorem dX6_tree_177 : decode cX6_tree 177 = .ok (.iload_n 2, 1) := by decide +kernel
theorem dX6_tree_178 : decode cX6_tree 178 = .ok (.iload 8, 2) := by decide +kernel
theorem dX6_tree_180 : decode cX6_tree 180 = .ok (.invokevirtual 79, 3) := by decide +kernel
theorem dX6_tree_183 : decode cX6_tree 183 = .ok (.if_icmp .ge 15, 3) := by decide +kernel
theorem dX6_tree_186 : decode cX6_tree 186 = .ok (.iload_n 3, 1) := by decide +kernel
theorem dX6_tree_187 : decode cX6_tree 187 = .ok (.ifCond .ne 8, 3) := by decide +kernel
theorem dX6_tree_190 : decode cX6_tree 190 = .ok (.iload 8, 2) := by decide +kernel
theorem dX6_tree_192 : decode cX6_tree 192 = .ok (.goto 5, 3) := by decide +kernel
theorem dX6_tree_195 : decode cX6_tree 195 = .ok (.iload 7, 2) := by decide +kernel
theorem dX6_tree_197 : decode cX6_tree 197 = .ok (.ireturn, 1) := by decide +kernel
theorem dX6_tree_198 : decode cX6_tree 198 = .ok (.iload 7, 2) := by decide +kernel
theorem dX6_tree_200 : decode cX6_tree 200 = .ok (.aload_n 0, 1) := by decide +kernel
theorem dX6_tree_201 : decode cX6_tree 201 = .ok (.iload 4, 2) := by decide +kernel
theorem dX6_tree_203 : decode cX6_tree 203 = .ok (.iload_n 2, 1) := by decide +kernel
theorem dX6_tree_204 : decode cX6_tree 204 = .ok (.iload 8, 2) := by decide +kernel
theorem dX6_tree_206 : decode cX6_tree 206 = .ok (.invokevirtual 79, 3) := by decide +kernel
theorem dX6_tree_209 : decode cX6_tree 209 = .ok (.isub, 1) := by decide +kernel
theorem dX6_tree_210 : decode cX6_tree 210 = .ok (.istore 7, 2) := by decide +kernel
theorem dX6_tree_212 : decode cX6_tree 212 = .ok (.iinc 8 1, 3) := by decide +kernel
theorem dX6_tree_215 : decode cX6_tree 215 = .ok (.goto (-70), 3) := by decide +kernel
theorem dX6_tree_218 : decode cX6_tree 218 = .ok (.iconst 0, 1) := by decide +kernel
theorem dX6_tree_219 : decode cX6_tree 219 = .ok (.ireturn, 1) := by decide +kernel
theorem dX6_leads_0 : decode cX6_leads 0 = .ok (.iconst 1, 1) := by decide +kernel
theorem dX6_leads_1 : decode cX6_leads 1 = .ok (.istore_n 2, 1) := by decide +kernel
theorem dX6_leads_2 : decode cX6_leads 2 = .ok (.iconst 1, 1) := by decide +kernel
theorem dX6_leads_3 : decode cX6_leads 3 = .ok (.istore_n 3, 1) := by decide +kernel
theorem dX6_leads_4 : decode cX6_leads 4 = .ok (.iload_n 3, 1) := by decide +kernel
theorem dX6_leads_5 : decode cX6_leads 5 = .ok (.aload_n 0, 1) := by decide +kernel
theorem dX6_leads_6 : decode cX6_leads 6 = .ok (.getfield 7, 3) := by decide +kernel
theorem dX6_leads_9 : decode cX6_leads 9 = .ok (.iload_n 1, 1) := by decide +kernel
theorem dX6_leads_10 : decode cX6_leads 10 = .ok (.iaload, 1) := by decide +kernel
theorem dX6_leads_11 : decode cX6_leads 11 = .ok (.if_icmp .ge 65, 3) := by decide +kernel
theorem dX6_leads_14 : decode cX6_leads 14 = .ok (.iload_n 2, 1) := by decide +kernel
theorem dX6_leads_15 : decode cX6_leads 15 = .ok (.ifCond .eq 61, 3) := by decide +kernel
theorem dX6_leads_18 : decode cX6_leads 18 = .ok (.iconst 0, 1) := by decide +kernel
theorem dX6_leads_19 : decode cX6_leads 19 = .ok (.istore 4, 2) := by decide +kernel
theorem dX6_leads_21 : decode cX6_leads 21 = .ok (.iload_n 3, 1) := by decide +kernel
theorem dX6_leads_22 : decode cX6_leads 22 = .ok (.istore 5, 2) := by decide +kernel
theorem dX6_leads_24 : decode cX6_leads 24 = .ok (.iload 5, 2) := by decide +kernel
theorem dX6_leads_26 : decode cX6_leads 26 = .ok (.ifCond .eq 25, 3) := by decide +kernel
theorem dX6_leads_29 : decode cX6_leads 29 = .ok (.iload 4, 2) := by decide +kernel
theorem dX6_leads_31 : decode cX6_leads 31 = .ok (.bipush 8, 2) := by decide +kernel
theorem dX6_leads_33 : decode cX6_leads 33 = .ok (.if_icmp .ge 18, 3) := by decide +kernel
theorem dX6_leads_36 : decode cX6_leads 36 = .ok (.aload_n 0, 1) := by decide +kernel
theorem dX6_leads_37 : decode cX6_leads 37 = .ok (.getfield 51, 3) := by decide +kernel
theorem dX6_leads_40 : decode cX6_leads 40 = .ok (.iload 5, 2) := by decide +kernel
theorem dX6_leads_42 : decode cX6_leads 42 = .ok (.iaload, 1) := by decide +kernel
theorem dX6_leads_43 : decode cX6_leads 43 = .ok (.istore 5, 2) := by decide +kernel
theorem dX6_leads_45 : decode cX6_leads 45 = .ok (.iinc 4 1, 3) := by decide +kernel
theorem dX6_leads_48 : decode cX6_leads 48 = .ok (.goto (-24), 3) := by decide +kernel
theorem dX6_leads_51 : decode cX6_leads 51 = .ok (.iload 5, 2) := by decide +kernel
theorem dX6_leads_53 : decode cX6_leads 53 = .ok (.ifCond .ne 7, 3) := by decide +kernel
theorem dX6_leads_56 : decode cX6_leads 56 = .ok (.iconst 1, 1) := by decide +kernel
theorem dX6_leads_57 : decode cX6_leads 57 = .ok (.goto 4, 3) := by decide +kernel
theorem dX6_leads_60 : decode cX6_leads 60 = .ok (.iconst 0, 1) := by decide +kernel
theorem dX6_leads_61 : decode cX6_leads 61 = .ok (.istore_n 2, 1) := by decide +kernel
theorem dX6_leads_62 : decode cX6_leads 62 = .ok (.aload_n 0, 1) := by decide +kernel
theorem dX6_leads_63 : decode cX6_leads 63 = .ok (.getfield 57, 3) := by decide +kernel
theorem dX6_leads_66 : decode cX6_leads 66 = .ok (.iload_n 3, 1) := by decide +kernel
theorem dX6_leads_67 : decode cX6_leads 67 = .ok (.iload 4, 2) := by decide +kernel
theorem dX6_leads_69 : decode cX6_leads 69 = .ok (.iastore, 1) := by decide +kernel
theorem dX6_leads_70 : decode cX6_leads 70 = .ok (.iinc 3 1, 3) := by decide +kernel
theorem dX6_leads_73 : decode cX6_leads 73 = .ok (.goto (-69), 3) := by decide +kernel
theorem dX6_leads_76 : decode cX6_leads 76 = .ok (.aload_n 0, 1) := by decide +kernel
theorem dX6_leads_77 : decode cX6_leads 77 = .ok (.getfield 57, 3) := by decide +kernel
theorem dX6_leads_80 : decode cX6_leads 80 = .ok (.iconst 0, 1) := by decide +kernel
theorem dX6_leads_81 : decode cX6_leads 81 = .ok (.iconst 0, 1) := by decide +kernel
theorem dX6_leads_82 : decode cX6_leads 82 = .ok (.iastore, 1) := by decide +kernel
theorem dX6_leads_83 : decode cX6_leads 83 = .ok (.iload_n 2, 1) := by decide +kernel
theorem dX6_leads_84 : decode cX6_leads 84 = .ok (.ireturn, 1) := by decide +kernel
set_option maxRecDepth 20000 in
theorem ggX6_grow_X6_isHeap : GoodIn wsX6_grow wsX6_isHeap := goodIn_r _ [10, 11, 12, 13, 14, 15, 9, 16, 40, 41, 42, 43, 44, 45, 46, 47, 48, 49, 50, 51, 52, 53, 54, 55, 56, 57, 58] (by decide +kernel) (by decide +kernel)
set_option maxRecDepth 20000 in
theorem gX6_grow_X6_isHeap : GoodIn wsX6_grow (wsV RX6 132 RX6 yX6_isHeap wsX6_isHeap) := goodIn_app (goodIn_of _ (by decide +kernel)) ggX6_grow_X6_isHeap
set_option maxRecDepth 20000 in
theorem ggX6_grow_X6_size : GoodIn wsX6_grow wsX6_size := goodIn_r _ [20, 21, 1, 40, 41, 42, 43, 44, 45, 46, 47, 48, 49, 50, 51, 52, 53, 54, 55, 56, 57, 58] (by decide +kernel) (by decide +kernel)
set_option maxRecDepth 20000 in
theorem gX6_grow_X6_size : GoodIn wsX6_grow (wsV RX6 129 RX6 yX6_size wsX6_size) := goodIn_app (goodIn_of _ (by decide +kernel)) ggX6_grow_X6_size
set_option maxRecDepth 20000 in
theorem ggX6_grow_X6_between : GoodIn wsX6_grow wsX6_between := goodIn_r _ [25, 26, 40, 41, 42, 43, 44, 45, 46, 47, 48, 49, 50, 51, 52, 53, 54, 55, 56, 57, 58] (by decide +kernel) (by decide +kernel)
set_option maxRecDepth 20000 in
theorem gX6_grow_X6_between : GoodIn wsX6_grow (wsV RX6 79 RX6 yX6_between wsX6_between) := goodIn_app (goodIn_of _ (by decide +kernel)) ggX6_grow_X6_between
set_option maxRecDepth 20000 in
theorem ggX6_grow_X6_leads : GoodIn wsX6_grow wsX6_leads := goodIn_r _ [30, 21, 3, 5, 40, 41, 42, 43, 44, 45, 46, 47, 48, 49, 50, 51, 52, 53, 54, 55, 56, 57, 58] (by decide +kernel) (by decide +kernel)
set_option maxRecDepth 20000 in
theorem gX6_grow_X6_leads : GoodIn wsX6_grow (wsV RX6 180 RX6 yX6_leads wsX6_leads) := goodIn_app (goodIn_of _ (by decide +kernel)) ggX6_grow_X6_leads
set_option maxRecDepth 20000 in
theorem ggX6_grow_X6_degreeOf : GoodIn wsX6_grow wsX6_degreeOf := goodIn_r _ [34, 21, 22, 23, 24, 9, 25, 26, 40, 41, 42, 43, 44, 45, 46, 47, 48, 49, 50, 51, 52, 53, 54, 55, 56, 57, 58] (by decide +kernel) (by decide +kernel)
set_option maxRecDepth 20000 in
theorem gX6_grow_X6_degreeOf : GoodIn wsX6_grow (wsV RX6 83 RX6 yX6_degreeOf wsX6_degreeOf) := goodIn_app (goodIn_of _ (by decide +kernel)) ggX6_grow_X6_degreeOf
set_option maxRecDepth 20000 in
theorem ggX6_grow_X6_sets : GoodIn wsX6_grow wsX6_sets := goodIn_r _ [38, 39, 40, 41, 42, 43, 44, 45, 46, 47, 48, 49, 50, 51, 52, 53, 54, 55, 56, 57, 58] (by decide +kernel) (by decide +kernel)
set_option maxRecDepth 20000 in
theorem gX6_grow_X6_sets : GoodIn wsX6_grow (wsV RX6 161 RX6 yX6_sets wsX6_sets) := goodIn_app (goodIn_of _ (by decide +kernel)) ggX6_grow_X6_sets
theorem dX6_grow_0 : decode cX6_grow 0 = .ok (.aload_n 0, 1) := by decide +kernel
theorem dX6_grow_1 : decode cX6_grow 1 = .ok (.iload_n 1, 1) := by decide +kernel
theorem dX6_grow_2 : decode cX6_grow 2 = .ok (.invokevirtual 132, 3) := by decide +kernel
theorem dX6_grow_5 : decode cX6_grow 5 = .ok (.ifCond .ne 5, 3) := by decide +kernel
theorem dX6_grow_8 : decode cX6_grow 8 = .ok (.iconst 0, 1) := by decide +kernel
theorem dX6_grow_9 : decode cX6_grow 9 = .ok (.ireturn, 1) := by decide +kernel
theorem dX6_grow_10 : decode cX6_grow 10 = .ok (.aload_n 0, 1) := by decide +kernel
theorem dX6_grow_11 : decode cX6_grow 11 = .ok (.getfield 16, 3) := by decide +kernel
theorem dX6_grow_14 : decode cX6_grow 14 = .ok (.iload_n 1, 1) := by decide +kernel
theorem dX6_grow_15 : decode cX6_grow 15 = .ok (.iaload, 1) := by decide +kernel
theorem dX6_grow_16 : decode cX6_grow 16 = .ok (.istore 4, 2) := by decide +kernel
theorem dX6_grow_18 : decode cX6_grow 18 = .ok (.iconst 1, 1) := by decide +kernel
theorem dX6_grow_19 : decode cX6_grow 19 = .ok (.istore 5, 2) := by decide +kernel
theorem dX6_grow_21 : decode cX6_grow 21 = .ok (.iconst 1, 1) := by decide +kernel
theorem dX6_grow_22 : decode cX6_grow 22 = .ok (.istore 6, 2) := by decide +kernel
theorem dX6_grow_24 : decode cX6_grow 24 = .ok (.iload 6, 2) := by decide +kernel
theorem dX6_grow_26 : decode cX6_grow 26 = .ok (.aload_n 0, 1) := by decide +kernel
theorem dX6_grow_27 : decode cX6_grow 27 = .ok (.iload_n 1, 1) := by decide +kernel
theorem dX6_grow_28 : decode cX6_grow 28 = .ok (.invokevirtual 129, 3) := by decide +kernel
theorem dX6_grow_31 : decode cX6_grow 31 = .ok (.if_icmp .ge 111, 3) := by decide +kernel
theorem dX6_grow_34 : decode cX6_grow 34 = .ok (.lload_n 2, 1) := by decide +kernel
theorem dX6_grow_35 : decode cX6_grow 35 = .ok (.iconst 5, 1) := by decide +kernel
theorem dX6_grow_36 : decode cX6_grow 36 = .ok (.iload 6, 2) := by decide +kernel
theorem dX6_grow_38 : decode cX6_grow 38 = .ok (.imul, 1) := by decide +kernel
theorem dX6_grow_39 : decode cX6_grow 39 = .ok (.iconst 5, 1) := by decide +kernel
theorem dX6_grow_40 : decode cX6_grow 40 = .ok (.isub, 1) := by decide +kernel
theorem dX6_grow_41 : decode cX6_grow 41 = .ok (.lshr, 1) := by decide +kernel
theorem dX6_grow_42 : decode cX6_grow 42 = .ok (.ldc2_w 178, 3) := by decide +kernel
theorem dX6_grow_45 : decode cX6_grow 45 = .ok (.land, 1) := by decide +kernel
theorem dX6_grow_46 : decode cX6_grow 46 = .ok (.l2i, 1) := by decide +kernel
theorem dX6_grow_47 : decode cX6_grow 47 = .ok (.istore 7, 2) := by decide +kernel
theorem dX6_grow_49 : decode cX6_grow 49 = .ok (.aload_n 0, 1) := by decide +kernel
theorem dX6_grow_50 : decode cX6_grow 50 = .ok (.getfield 51, 3) := by decide +kernel
theorem dX6_grow_53 : decode cX6_grow 53 = .ok (.iload 6, 2) := by decide +kernel
theorem dX6_grow_55 : decode cX6_grow 55 = .ok (.iload 7, 2) := by decide +kernel
theorem dX6_grow_57 : decode cX6_grow 57 = .ok (.bipush 7, 2) := by decide +kernel
theorem dX6_grow_59 : decode cX6_grow 59 = .ok (.iand, 1) := by decide +kernel
theorem dX6_grow_60 : decode cX6_grow 60 = .ok (.iastore, 1) := by decide +kernel
theorem dX6_grow_61 : decode cX6_grow 61 = .ok (.aload_n 0, 1) := by decide +kernel
theorem dX6_grow_62 : decode cX6_grow 62 = .ok (.getfield 54, 3) := by decide +kernel
theorem dX6_grow_65 : decode cX6_grow 65 = .ok (.iload 6, 2) := by decide +kernel
theorem dX6_grow_67 : decode cX6_grow 67 = .ok (.iload 7, 2) := by decide +kernel
theorem dX6_grow_69 : decode cX6_grow 69 = .ok (.iconst 3, 1) := by decide +kernel
theorem dX6_grow_70 : decode cX6_grow 70 = .ok (.ishr, 1) := by decide +kernel
theorem dX6_grow_71 : decode cX6_grow 71 = .ok (.iastore, 1) := by decide +kernel
theorem dX6_grow_72 : decode cX6_grow 72 = .ok (.iload 5, 2) := by decide +kernel
theorem dX6_grow_74 : decode cX6_grow 74 = .ok (.ifCond .eq 59, 3) := by decide +kernel
theorem dX6_grow_77 : decode cX6_grow 77 = .ok (.aload_n 0, 1) := by decide +kernel
theorem dX6_grow_78 : decode cX6_grow 78 = .ok (.getfield 51, 3) := by decide +kernel
theorem dX6_grow_81 : decode cX6_grow 81 = .ok (.iload 6, 2) := by decide +kernel
theorem dX6_grow_83 : decode cX6_grow 83 = .ok (.iaload, 1) := by decide +kernel
theorem dX6_grow_84 : decode cX6_grow 84 = .ok (.aload_n 0, 1) := by decide +kernel
theorem dX6_grow_85 : decode cX6_grow 85 = .ok (.iload_n 1, 1) := by decide +kernel
theorem dX6_grow_86 : decode cX6_grow 86 = .ok (.invokevirtual 129, 3) := by decide +kernel
theorem dX6_grow_89 : decode cX6_grow 89 = .ok (.if_icmp .ge 44, 3) := by decide +kernel
theorem dX6_grow_92 : decode cX6_grow 92 = .ok (.aload_n 0, 1) := by decide +kernel
theorem dX6_grow_93 : decode cX6_grow 93 = .ok (.getfield 51, 3) := by decide +kernel
theorem dX6_grow_96 : decode cX6_grow 96 = .ok (.iload 6, 2) := by decide +kernel
theorem dX6_grow_98 : decode cX6_grow 98 = .ok (.iaload, 1) := by decide +kernel
theorem dX6_grow_99 : decode cX6_grow 99 = .ok (.iload 6, 2) := by decide +kernel
theorem dX6_grow_101 : decode cX6_grow 101 = .ok (.if_icmp .eq 32, 3) := by decide +kernel
theorem dX6_grow_104 : decode cX6_grow 104 = .ok (.aload_n 0, 1) := by decide +kernel
theorem dX6_grow_105 : decode cX6_grow 105 = .ok (.getfield 54, 3) := by decide +kernel
theorem dX6_grow_108 : decode cX6_grow 108 = .ok (.iload 6, 2) := by decide +kernel
theorem dX6_grow_110 : decode cX6_grow 110 = .ok (.iaload, 1) := by decide +kernel
theorem dX6_grow_111 : decode cX6_grow 111 = .ok (.aload_n 0, 1) := by decide +kernel
theorem dX6_grow_112 : decode cX6_grow 112 = .ok (.iload 4, 2) := by decide +kernel
theorem dX6_grow_114 : decode cX6_grow 114 = .ok (.iload 6, 2) := by decide +kernel
theorem dX6_grow_116 : decode cX6_grow 116 = .ok (.aload_n 0, 1) := by decide +kernel
theorem dX6_grow_117 : decode cX6_grow 117 = .ok (.getfield 51, 3) := by decide +kernel
theorem dX6_grow_120 : decode cX6_grow 120 = .ok (.iload 6, 2) := by decide +kernel
theorem dX6_grow_122 : decode cX6_grow 122 = .ok (.iaload, 1) := by decide +kernel
theorem dX6_grow_123 : decode cX6_grow 123 = .ok (.invokevirtual 79, 3) := by decide +kernel
theorem dX6_grow_126 : decode cX6_grow 126 = .ok (.if_icmp .ge 7, 3) := by decide +kernel
theorem dX6_grow_129 : decode cX6_grow 129 = .ok (.iconst 1, 1) := by decide +kernel
theorem dX6_grow_130 : decode cX6_grow 130 = .ok (.goto 4, 3) := by decide +kernel
theorem dX6_grow_133 : decode cX6_grow 133 = .ok (.iconst 0, 1) := by decide +kernel
theorem dX6_grow_134 : decode cX6_grow 134 = .ok (.istore 5, 2) := by decide +kernel
theorem dX6_grow_136 : decode cX6_grow 136 = .ok (.iinc 6 1, 3) := by decide +kernel
theorem dX6_grow_139 : decode cX6_grow 139 = .ok (.goto (-115), 3) := by decide +kernel
theorem dX6_grow_142 : decode cX6_grow 142 = .ok (.iload 5, 2) := by decide +kernel
theorem dX6_grow_144 : decode cX6_grow 144 = .ok (.ifCond .eq 12, 3) := by decide +kernel
theorem dX6_grow_147 : decode cX6_grow 147 = .ok (.aload_n 0, 1) := by decide +kernel
theorem dX6_grow_148 : decode cX6_grow 148 = .ok (.iload 4, 2) := by decide +kernel
theorem dX6_grow_150 : decode cX6_grow 150 = .ok (.invokevirtual 180, 3) := by decide +kernel
theorem dX6_grow_153 : decode cX6_grow 153 = .ok (.ifCond .ne 5, 3) := by decide +kernel
theorem dX6_grow_156 : decode cX6_grow 156 = .ok (.iconst 0, 1) := by decide +kernel
theorem dX6_grow_157 : decode cX6_grow 157 = .ok (.ireturn, 1) := by decide +kernel
theorem dX6_grow_158 : decode cX6_grow 158 = .ok (.iconst 1, 1) := by decide +kernel
theorem dX6_grow_159 : decode cX6_grow 159 = .ok (.istore 6, 2) := by decide +kernel
theorem dX6_grow_161 : decode cX6_grow 161 = .ok (.iload 6, 2) := by decide +kernel
theorem dX6_grow_163 : decode cX6_grow 163 = .ok (.aload_n 0, 1) := by decide +kernel
theorem dX6_grow_164 : decode cX6_grow 164 = .ok (.iload_n 1, 1) := by decide +kernel
theorem dX6_grow_165 : decode cX6_grow 165 = .ok (.invokevirtual 129, 3) := by decide +kernel
theorem dX6_grow_168 : decode cX6_grow 168 = .ok (.if_icmp .ge 146, 3) := by decide +kernel
theorem dX6_grow_171 : decode cX6_grow 171 = .ok (.aload_n 0, 1) := by decide +kernel
theorem dX6_grow_172 : decode cX6_grow 172 = .ok (.iload 4, 2) := by decide +kernel
theorem dX6_grow_174 : decode cX6_grow 174 = .ok (.iload 6, 2) := by decide +kernel
theorem dX6_grow_176 : decode cX6_grow 176 = .ok (.invokevirtual 83, 3) := by decide +kernel
theorem dX6_grow_179 : decode cX6_grow 179 = .ok (.i2l, 1) := by decide +kernel
theorem dX6_grow_180 : decode cX6_grow 180 = .ok (.lstore 7, 2) := by decide +kernel
theorem dX6_grow_182 : decode cX6_grow 182 = .ok (.iconst 0, 1) := by decide +kernel
theorem dX6_grow_183 : decode cX6_grow 183 = .ok (.istore 9, 2) := by decide +kernel
theorem dX6_grow_185 : decode cX6_grow 185 = .ok (.iload 9, 2) := by decide +kernel
theorem dX6_grow_187 : decode cX6_grow 187 = .ok (.aload_n 0, 1) := by decide +kernel
theorem dX6_grow_188 : decode cX6_grow 188 = .ok (.iload_n 1, 1) := by decide +kernel
theorem dX6_grow_189 : decode cX6_grow 189 = .ok (.invokevirtual 129, 3) := by decide +kernel
theorem dX6_grow_192 : decode cX6_grow 192 = .ok (.if_icmp .ge 42, 3) := by decide +kernel
theorem dX6_grow_195 : decode cX6_grow 195 = .ok (.aload_n 0, 1) := by decide +kernel
theorem dX6_grow_196 : decode cX6_grow 196 = .ok (.getfield 57, 3) := by decide +kernel
theorem dX6_grow_199 : decode cX6_grow 199 = .ok (.iload 9, 2) := by decide +kernel
theorem dX6_grow_201 : decode cX6_grow 201 = .ok (.iaload, 1) := by decide +kernel
theorem dX6_grow_202 : decode cX6_grow 202 = .ok (.aload_n 0, 1) := by decide +kernel
theorem dX6_grow_203 : decode cX6_grow 203 = .ok (.getfield 57, 3) := by decide +kernel
theorem dX6_grow_206 : decode cX6_grow 206 = .ok (.iload 6, 2) := by decide +kernel
theorem dX6_grow_208 : decode cX6_grow 208 = .ok (.iaload, 1) := by decide +kernel
theorem dX6_grow_209 : decode cX6_grow 209 = .ok (.if_icmp .ge 19, 3) := by decide +kernel
theorem dX6_grow_212 : decode cX6_grow 212 = .ok (.lload 7, 2) := by decide +kernel
theorem dX6_grow_214 : decode cX6_grow 214 = .ok (.aload_n 0, 1) := by decide +kernel
theorem dX6_grow_215 : decode cX6_grow 215 = .ok (.iload 4, 2) := by decide +kernel
theorem dX6_grow_217 : decode cX6_grow 217 = .ok (.iload 6, 2) := by decide +kernel
theorem dX6_grow_219 : decode cX6_grow 219 = .ok (.iload 9, 2) := by decide +kernel
theorem dX6_grow_221 : decode cX6_grow 221 = .ok (.invokevirtual 79, 3) := by decide +kernel
theorem dX6_grow_224 : decode cX6_grow 224 = .ok (.i2l, 1) := by decide +kernel
theorem dX6_grow_225 : decode cX6_grow 225 = .ok (.lsub, 1) := by decide +kernel
theorem dX6_grow_226 : decode cX6_grow 226 = .ok (.lstore 7, 2) := by decide +kernel
theorem dX6_grow_228 : decode cX6_grow 228 = .ok (.iinc 9 1, 3) := by decide +kernel
theorem dX6_grow_231 : decode cX6_grow 231 = .ok (.goto (-46), 3) := by decide +kernel
theorem dX6_grow_234 : decode cX6_grow 234 = .ok (.iconst 0, 1) := by decide +kernel
theorem dX6_grow_235 : decode cX6_grow 235 = .ok (.istore 9, 2) := by decide +kernel
theorem dX6_grow_237 : decode cX6_grow 237 = .ok (.iload 9, 2) := by decide +kernel
theorem dX6_grow_239 : decode cX6_grow 239 = .ok (.aload_n 0, 1) := by decide +kernel
theorem dX6_grow_240 : decode cX6_grow 240 = .ok (.getfield 51, 3) := by decide +kernel
theorem dX6_grow_243 : decode cX6_grow 243 = .ok (.iload 6, 2) := by decide +kernel
theorem dX6_grow_245 : decode cX6_grow 245 = .ok (.iaload, 1) := by decide +kernel
theorem dX6_grow_246 : decode cX6_grow 246 = .ok (.if_icmp .ge 44, 3) := by decide +kernel
theorem dX6_grow_249 : decode cX6_grow 249 = .ok (.aload_n 0, 1) := by decide +kernel
theorem dX6_grow_250 : decode cX6_grow 250 = .ok (.getfield 57, 3) := by decide +kernel
theorem dX6_grow_253 : decode cX6_grow 253 = .ok (.iload 9, 2) := by decide +kernel
theorem dX6_grow_255 : decode cX6_grow 255 = .ok (.iaload, 1) := by decide +kernel
theorem dX6_grow_256 : decode cX6_grow 256 = .ok (.aload_n 0, 1) := by decide +kernel
theorem dX6_grow_257 : decode cX6_grow 257 = .ok (.getfield 57, 3) := by decide +kernel
theorem dX6_grow_260 : decode cX6_grow 260 = .ok (.iload 6, 2) := by decide +kernel
theorem dX6_grow_262 : decode cX6_grow 262 = .ok (.iaload, 1) := by decide +kernel
theorem dX6_grow_263 : decode cX6_grow 263 = .ok (.iconst 1, 1) := by decide +kernel
theorem dX6_grow_264 : decode cX6_grow 264 = .ok (.isub, 1) := by decide +kernel
theorem dX6_grow_265 : decode cX6_grow 265 = .ok (.if_icmp .ne 19, 3) := by decide +kernel
theorem dX6_grow_268 : decode cX6_grow 268 = .ok (.lload 7, 2) := by decide +kernel
theorem dX6_grow_270 : decode cX6_grow 270 = .ok (.aload_n 0, 1) := by decide +kernel
theorem dX6_grow_271 : decode cX6_grow 271 = .ok (.iload 4, 2) := by decide +kernel
theorem dX6_grow_273 : decode cX6_grow 273 = .ok (.iload 6, 2) := by decide +kernel
theorem dX6_grow_275 : decode cX6_grow 275 = .ok (.iload 9, 2) := by decide +kernel
theorem dX6_grow_277 : decode cX6_grow 277 = .ok (.invokevirtual 79, 3) := by decide +kernel
theorem dX6_grow_280 : decode cX6_grow 280 = .ok (.i2l, 1) := by decide +kernel
theorem dX6_grow_281 : decode cX6_grow 281 = .ok (.ladd, 1) := by decide +kernel
theorem dX6_grow_282 : decode cX6_grow 282 = .ok (.lstore 7, 2) := by decide +kernel
theorem dX6_grow_284 : decode cX6_grow 284 = .ok (.iinc 9 1, 3) := by decide +kernel
theorem dX6_grow_287 : decode cX6_grow 287 = .ok (.goto (-50), 3) := by decide +kernel
theorem dX6_grow_290 : decode cX6_grow 290 = .ok (.aload_n 0, 1) := by decide +kernel
theorem dX6_grow_291 : decode cX6_grow 291 = .ok (.iload_n 1, 1) := by decide +kernel
theorem dX6_grow_292 : decode cX6_grow 292 = .ok (.iload 6, 2) := by decide +kernel
theorem dX6_grow_294 : decode cX6_grow 294 = .ok (.lload 7, 2) := by decide +kernel
theorem dX6_grow_296 : decode cX6_grow 296 = .ok (.aload_n 0, 1) := by decide +kernel
theorem dX6_grow_297 : decode cX6_grow 297 = .ok (.getfield 54, 3) := by decide +kernel
theorem dX6_grow_300 : decode cX6_grow 300 = .ok (.iload 6, 2) := by decide +kernel
theorem dX6_grow_302 : decode cX6_grow 302 = .ok (.iaload, 1) := by decide +kernel
theorem dX6_grow_303 : decode cX6_grow 303 = .ok (.i2l, 1) := by decide +kernel
theorem dX6_grow_304 : decode cX6_grow 304 = .ok (.ladd, 1) := by decide +kernel
theorem dX6_grow_305 : decode cX6_grow 305 = .ok (.invokevirtual 161, 3) := by decide +kernel
theorem dX6_grow_308 : decode cX6_grow 308 = .ok (.iinc 6 1, 3) := by decide +kernel
theorem dX6_grow_311 : decode cX6_grow 311 = .ok (.goto (-150), 3) := by decide +kernel
theorem dX6_grow_314 : decode cX6_grow 314 = .ok (.iconst 1, 1) := by decide +kernel
theorem dX6_grow_315 : decode cX6_grow 315 = .ok (.ireturn, 1) := by decide +kernel
set_option maxRecDepth 20000 in
theorem ggX6_count_X6_right : GoodIn wsX6_count wsX6_right := goodIn_r _ [8, 1, 9, 10, 11, 12, 13, 14, 15, 16, 17, 18, 19, 20, 21, 22, 23, 24, 25, 26, 27] (by decide +kernel) (by decide +kernel)
set_option maxRecDepth 20000 in
theorem gX6_count_X6_right : GoodIn wsX6_count (wsV RX6 67 RX6 yX6_right wsX6_right) := goodIn_app (goodIn_of _ (by decide +kernel)) ggX6_count_X6_right
theorem dX6_count_0 : decode cX6_count 0 = .ok (.aload_n 0, 1) := by decide +kernel
theorem dX6_count_1 : decode cX6_count 1 = .ok (.iconst 0, 1) := by decide +kernel
theorem dX6_count_2 : decode cX6_count 2 = .ok (.putfield 60, 3) := by decide +kernel
theorem dX6_count_5 : decode cX6_count 5 = .ok (.aload_n 0, 1) := by decide +kernel
theorem dX6_count_6 : decode cX6_count 6 = .ok (.iload_n 1, 1) := by decide +kernel
theorem dX6_count_7 : decode cX6_count 7 = .ok (.ifCond .eq 8, 3) := by decide +kernel
theorem dX6_count_10 : decode cX6_count 10 = .ok (.iload_n 1, 1) := by decide +kernel
theorem dX6_count_11 : decode cX6_count 11 = .ok (.iconst 1, 1) := by decide +kernel
theorem dX6_count_12 : decode cX6_count 12 = .ok (.if_icmp .ne 7, 3) := by decide +kernel
theorem dX6_count_15 : decode cX6_count 15 = .ok (.iconst 1, 1) := by decide +kernel
theorem dX6_count_16 : decode cX6_count 16 = .ok (.goto 4, 3) := by decide +kernel
theorem dX6_count_19 : decode cX6_count 19 = .ok (.iconst 0, 1) := by decide +kernel
theorem dX6_count_20 : decode cX6_count 20 = .ok (.iconst 1, 1) := by decide +kernel
theorem dX6_count_21 : decode cX6_count 21 = .ok (.invokevirtual 67, 3) := by decide +kernel
theorem dX6_count_24 : decode cX6_count 24 = .ok (.ifCond .ne 5, 3) := by decide +kernel
theorem dX6_count_27 : decode cX6_count 27 = .ok (.iconst 0, 1) := by decide +kernel
theorem dX6_count_28 : decode cX6_count 28 = .ok (.ireturn, 1) := by decide +kernel
theorem dX6_count_29 : decode cX6_count 29 = .ok (.iload_n 1, 1) := by decide +kernel
theorem dX6_count_30 : decode cX6_count 30 = .ok (.ifCond .ne 10, 3) := by decide +kernel
theorem dX6_count_33 : decode cX6_count 33 = .ok (.aload_n 0, 1) := by decide +kernel
theorem dX6_count_34 : decode cX6_count 34 = .ok (.getfield 64, 3) := by decide +kernel
theorem dX6_count_37 : decode cX6_count 37 = .ok (.goto 7, 3) := by decide +kernel
theorem dX6_count_40 : decode cX6_count 40 = .ok (.aload_n 0, 1) := by decide +kernel
theorem dX6_count_41 : decode cX6_count 41 = .ok (.getfield 126, 3) := by decide +kernel
theorem dX6_count_44 : decode cX6_count 44 = .ok (.ireturn, 1) := by decide +kernel

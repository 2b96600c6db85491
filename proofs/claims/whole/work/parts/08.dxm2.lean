set_option maxRecDepth 20000 in
theorem ggX6_topples_X6_between : GoodIn wsX6_topples wsX6_between := goodIn_r _ [12, 13, 18, 19, 20, 21, 22, 23, 24, 25, 26, 27, 28, 29, 30, 31, 32, 33, 34, 35, 36] (by decide +kernel) (by decide +kernel)
set_option maxRecDepth 20000 in
theorem gX6_topples_X6_between : GoodIn wsX6_topples (wsV RX6 79 RX6 yX6_between wsX6_between) := goodIn_app (goodIn_of _ (by decide +kernel)) ggX6_topples_X6_between
set_option maxRecDepth 20000 in
theorem ggX6_topples_X6_degreeOf : GoodIn wsX6_topples wsX6_degreeOf := goodIn_r _ [17, 8, 9, 10, 11, 6, 12, 13, 18, 19, 20, 21, 22, 23, 24, 25, 26, 27, 28, 29, 30, 31, 32, 33, 34, 35, 36] (by decide +kernel) (by decide +kernel)
set_option maxRecDepth 20000 in
theorem gX6_topples_X6_degreeOf : GoodIn wsX6_topples (wsV RX6 83 RX6 yX6_degreeOf wsX6_degreeOf) := goodIn_app (goodIn_of _ (by decide +kernel)) ggX6_topples_X6_degreeOf
theorem dX6_topples_0 : decode cX6_topples 0 = .ok (.aload_n 0, 1) := by decide +kernel
theorem dX6_topples_1 : decode cX6_topples 1 = .ok (.getfield 16, 3) := by decide +kernel
theorem dX6_topples_4 : decode cX6_topples 4 = .ok (.iload_n 1, 1) := by decide +kernel
theorem dX6_topples_5 : decode cX6_topples 5 = .ok (.iaload, 1) := by decide +kernel
theorem dX6_topples_6 : decode cX6_topples 6 = .ok (.istore 5, 2) := by decide +kernel
theorem dX6_topples_8 : decode cX6_topples 8 = .ok (.iconst 0, 1) := by decide +kernel
theorem dX6_topples_9 : decode cX6_topples 9 = .ok (.istore 6, 2) := by decide +kernel
theorem dX6_topples_11 : decode cX6_topples 11 = .ok (.iload 6, 2) := by decide +kernel
theorem dX6_topples_13 : decode cX6_topples 13 = .ok (.aload_n 0, 1) := by decide +kernel
theorem dX6_topples_14 : decode cX6_topples 14 = .ok (.iload_n 1, 1) := by decide +kernel
theorem dX6_topples_15 : decode cX6_topples 15 = .ok (.invokevirtual 129, 3) := by decide +kernel
theorem dX6_topples_18 : decode cX6_topples 18 = .ok (.if_icmp .ge 36, 3) := by decide +kernel
theorem dX6_topples_21 : decode cX6_topples 21 = .ok (.aload_n 0, 1) := by decide +kernel
theorem dX6_topples_22 : decode cX6_topples 22 = .ok (.getfield 23, 3) := by decide +kernel
theorem dX6_topples_25 : decode cX6_topples 25 = .ok (.bipush 8, 2) := by decide +kernel
theorem dX6_topples_27 : decode cX6_topples 27 = .ok (.iload_n 1, 1) := by decide +kernel
theorem dX6_topples_28 : decode cX6_topples 28 = .ok (.imul, 1) := by decide +kernel
theorem dX6_topples_29 : decode cX6_topples 29 = .ok (.iload 6, 2) := by decide +kernel
theorem dX6_topples_31 : decode cX6_topples 31 = .ok (.iadd, 1) := by decide +kernel
theorem dX6_topples_32 : decode cX6_topples 32 = .ok (.dup2, 1) := by decide +kernel
theorem dX6_topples_33 : decode cX6_topples 33 = .ok (.laload, 1) := by decide +kernel
theorem dX6_topples_34 : decode cX6_topples 34 = .ok (.lload_n 3, 1) := by decide +kernel
theorem dX6_topples_35 : decode cX6_topples 35 = .ok (.aload_n 0, 1) := by decide +kernel
theorem dX6_topples_36 : decode cX6_topples 36 = .ok (.iload 5, 2) := by decide +kernel
theorem dX6_topples_38 : decode cX6_topples 38 = .ok (.iload_n 2, 1) := by decide +kernel
theorem dX6_topples_39 : decode cX6_topples 39 = .ok (.iload 6, 2) := by decide +kernel
theorem dX6_topples_41 : decode cX6_topples 41 = .ok (.invokevirtual 79, 3) := by decide +kernel
theorem dX6_topples_44 : decode cX6_topples 44 = .ok (.i2l, 1) := by decide +kernel
theorem dX6_topples_45 : decode cX6_topples 45 = .ok (.lmul, 1) := by decide +kernel
theorem dX6_topples_46 : decode cX6_topples 46 = .ok (.ladd, 1) := by decide +kernel
theorem dX6_topples_47 : decode cX6_topples 47 = .ok (.lastore, 1) := by decide +kernel
theorem dX6_topples_48 : decode cX6_topples 48 = .ok (.iinc 6 1, 3) := by decide +kernel
theorem dX6_topples_51 : decode cX6_topples 51 = .ok (.goto (-40), 3) := by decide +kernel
theorem dX6_topples_54 : decode cX6_topples 54 = .ok (.aload_n 0, 1) := by decide +kernel
theorem dX6_topples_55 : decode cX6_topples 55 = .ok (.getfield 23, 3) := by decide +kernel
theorem dX6_topples_58 : decode cX6_topples 58 = .ok (.bipush 8, 2) := by decide +kernel
theorem dX6_topples_60 : decode cX6_topples 60 = .ok (.iload_n 1, 1) := by decide +kernel
theorem dX6_topples_61 : decode cX6_topples 61 = .ok (.imul, 1) := by decide +kernel
theorem dX6_topples_62 : decode cX6_topples 62 = .ok (.iload_n 2, 1) := by decide +kernel
theorem dX6_topples_63 : decode cX6_topples 63 = .ok (.iadd, 1) := by decide +kernel
theorem dX6_topples_64 : decode cX6_topples 64 = .ok (.dup2, 1) := by decide +kernel
theorem dX6_topples_65 : decode cX6_topples 65 = .ok (.laload, 1) := by decide +kernel
theorem dX6_topples_66 : decode cX6_topples 66 = .ok (.lload_n 3, 1) := by decide +kernel
theorem dX6_topples_67 : decode cX6_topples 67 = .ok (.aload_n 0, 1) := by decide +kernel
theorem dX6_topples_68 : decode cX6_topples 68 = .ok (.iload 5, 2) := by decide +kernel
theorem dX6_topples_70 : decode cX6_topples 70 = .ok (.iload_n 2, 1) := by decide +kernel
theorem dX6_topples_71 : decode cX6_topples 71 = .ok (.invokevirtual 83, 3) := by decide +kernel
theorem dX6_topples_74 : decode cX6_topples 74 = .ok (.i2l, 1) := by decide +kernel
theorem dX6_topples_75 : decode cX6_topples 75 = .ok (.lmul, 1) := by decide +kernel
theorem dX6_topples_76 : decode cX6_topples 76 = .ok (.lsub, 1) := by decide +kernel
theorem dX6_topples_77 : decode cX6_topples 77 = .ok (.lastore, 1) := by decide +kernel
theorem dX6_topples_78 : decode cX6_topples 78 = .ok (.return_, 1) := by decide +kernel
set_option maxRecDepth 20000 in
theorem ggX6_may_X6_degreeOf : GoodIn wsX6_may wsX6_degreeOf := goodIn_r _ [7, 8, 9, 10, 11, 6, 12, 13, 14, 15, 16, 17, 18, 19, 20, 21, 22, 23, 24, 25, 26, 27, 28, 29, 30, 31, 32] (by decide +kernel) (by decide +kernel)
set_option maxRecDepth 20000 in
theorem gX6_may_X6_degreeOf : GoodIn wsX6_may (wsV RX6 83 RX6 yX6_degreeOf wsX6_degreeOf) := goodIn_app (goodIn_of _ (by decide +kernel)) ggX6_may_X6_degreeOf
theorem dX6_may_0 : decode cX6_may 0 = .ok (.aload_n 0, 1) := by decide +kernel
theorem dX6_may_1 : decode cX6_may 1 = .ok (.getfield 23, 3) := by decide +kernel
theorem dX6_may_4 : decode cX6_may 4 = .ok (.bipush 8, 2) := by decide +kernel
theorem dX6_may_6 : decode cX6_may 6 = .ok (.iload_n 1, 1) := by decide +kernel
theorem dX6_may_7 : decode cX6_may 7 = .ok (.imul, 1) := by decide +kernel
theorem dX6_may_8 : decode cX6_may 8 = .ok (.iload_n 2, 1) := by decide +kernel
theorem dX6_may_9 : decode cX6_may 9 = .ok (.iadd, 1) := by decide +kernel
theorem dX6_may_10 : decode cX6_may 10 = .ok (.laload, 1) := by decide +kernel
theorem dX6_may_11 : decode cX6_may 11 = .ok (.aload_n 0, 1) := by decide +kernel
theorem dX6_may_12 : decode cX6_may 12 = .ok (.aload_n 0, 1) := by decide +kernel
theorem dX6_may_13 : decode cX6_may 13 = .ok (.getfield 16, 3) := by decide +kernel
theorem dX6_may_16 : decode cX6_may 16 = .ok (.iload_n 1, 1) := by decide +kernel
theorem dX6_may_17 : decode cX6_may 17 = .ok (.iaload, 1) := by decide +kernel
theorem dX6_may_18 : decode cX6_may 18 = .ok (.iload_n 2, 1) := by decide +kernel
theorem dX6_may_19 : decode cX6_may 19 = .ok (.invokevirtual 83, 3) := by decide +kernel
theorem dX6_may_22 : decode cX6_may 22 = .ok (.i2l, 1) := by decide +kernel
theorem dX6_may_23 : decode cX6_may 23 = .ok (.lcmp, 1) := by decide +kernel
theorem dX6_may_24 : decode cX6_may 24 = .ok (.ifCond .lt 7, 3) := by decide +kernel
theorem dX6_may_27 : decode cX6_may 27 = .ok (.iconst 1, 1) := by decide +kernel
theorem dX6_may_28 : decode cX6_may 28 = .ok (.goto 4, 3) := by decide +kernel
theorem dX6_may_31 : decode cX6_may 31 = .ok (.iconst 0, 1) := by decide +kernel
theorem dX6_may_32 : decode cX6_may 32 = .ok (.ireturn, 1) := by decide +kernel
set_option maxRecDepth 20000 in
theorem ggX6_topple_X6_isHeap : GoodIn wsX6_topple wsX6_isHeap := goodIn_r _ [5, 6, 7, 8, 9, 10, 4, 11, 40, 41, 42, 43, 44, 45, 46, 47, 48, 49, 50, 51, 52, 53, 54, 55, 56, 57, 58] (by decide +kernel) (by decide +kernel)
set_option maxRecDepth 20000 in
theorem gX6_topple_X6_isHeap : GoodIn wsX6_topple (wsV RX6 132 RX6 yX6_isHeap wsX6_isHeap) := goodIn_app (goodIn_of _ (by decide +kernel)) ggX6_topple_X6_isHeap
set_option maxRecDepth 20000 in
theorem ggX6_topple_X6_isIn : GoodIn wsX6_topple wsX6_isIn := goodIn_r _ [15, 16, 17, 18, 4, 19, 20, 21, 8, 9, 10, 11, 6, 40, 41, 42, 43, 44, 45, 46, 47, 48, 49, 50, 51, 52, 53, 54, 55, 56, 57, 58] (by decide +kernel) (by decide +kernel)
set_option maxRecDepth 20000 in
theorem gX6_topple_X6_isIn : GoodIn wsX6_topple (wsV RX6 135 RX6 yX6_isIn wsX6_isIn) := goodIn_app (goodIn_of _ (by decide +kernel)) ggX6_topple_X6_isIn
set_option maxRecDepth 20000 in
theorem ggX6_topple_X6_may : GoodIn wsX6_topple wsX6_may := goodIn_r _ [25, 26, 21, 27, 28, 29, 4, 30, 20, 31, 32, 33, 34, 35, 40, 41, 42, 43, 44, 45, 46, 47, 48, 49, 50, 51, 52, 53, 54, 55, 56, 57, 58] (by decide +kernel) (by decide +kernel)
set_option maxRecDepth 20000 in
theorem gX6_topple_X6_may : GoodIn wsX6_topple (wsV RX6 140 RX6 yX6_may wsX6_may) := goodIn_app (goodIn_of _ (by decide +kernel)) ggX6_topple_X6_may
set_option maxRecDepth 20000 in
theorem ggX6_topple_X6_topples : GoodIn wsX6_topple wsX6_topples := goodIn_r _ [39, 21, 26, 16, 17, 18, 4, 19, 20, 31, 32, 33, 34, 35, 27, 28, 29, 30, 40, 41, 42, 43, 44, 45, 46, 47, 48, 49, 50, 51, 52, 53, 54, 55, 56, 57, 58] (by decide +kernel) (by decide +kernel)
set_option maxRecDepth 20000 in
theorem gX6_topple_X6_topples : GoodIn wsX6_topple (wsV RX6 143 RX6 yX6_topples wsX6_topples) := goodIn_app (goodIn_of _ (by decide +kernel)) ggX6_topple_X6_topples
theorem dX6_topple_0 : decode cX6_topple 0 = .ok (.aload_n 0, 1) := by decide +kernel
theorem dX6_topple_1 : decode cX6_topple 1 = .ok (.iload_n 1, 1) := by decide +kernel
theorem dX6_topple_2 : decode cX6_topple 2 = .ok (.invokevirtual 132, 3) := by decide +kernel
theorem dX6_topple_5 : decode cX6_topple 5 = .ok (.ifCond .eq 22, 3) := by decide +kernel
theorem dX6_topple_8 : decode cX6_topple 8 = .ok (.aload_n 0, 1) := by decide +kernel
theorem dX6_topple_9 : decode cX6_topple 9 = .ok (.iload_n 1, 1) := by decide +kernel
theorem dX6_topple_10 : decode cX6_topple 10 = .ok (.iload_n 2, 1) := by decide +kernel
theorem dX6_topple_11 : decode cX6_topple 11 = .ok (.iconst 1, 1) := by decide +kernel
theorem dX6_topple_12 : decode cX6_topple 12 = .ok (.invokevirtual 135, 3) := by decide +kernel
theorem dX6_topple_15 : decode cX6_topple 15 = .ok (.ifCond .eq 12, 3) := by decide +kernel
theorem dX6_topple_18 : decode cX6_topple 18 = .ok (.aload_n 0, 1) := by decide +kernel
theorem dX6_topple_19 : decode cX6_topple 19 = .ok (.iload_n 1, 1) := by decide +kernel
theorem dX6_topple_20 : decode cX6_topple 20 = .ok (.iload_n 2, 1) := by decide +kernel
theorem dX6_topple_21 : decode cX6_topple 21 = .ok (.invokevirtual 140, 3) := by decide +kernel
theorem dX6_topple_24 : decode cX6_topple 24 = .ok (.ifCond .ne 5, 3) := by decide +kernel
theorem dX6_topple_27 : decode cX6_topple 27 = .ok (.iconst 0, 1) := by decide +kernel
theorem dX6_topple_28 : decode cX6_topple 28 = .ok (.ireturn, 1) := by decide +kernel
theorem dX6_topple_29 : decode cX6_topple 29 = .ok (.aload_n 0, 1) := by decide +kernel
theorem dX6_topple_30 : decode cX6_topple 30 = .ok (.iload_n 1, 1) := by decide +kernel
theorem dX6_topple_31 : decode cX6_topple 31 = .ok (.iload_n 2, 1) := by decide +kernel
theorem dX6_topple_32 : decode cX6_topple 32 = .ok (.lconst 1, 1) := by decide +kernel
theorem dX6_topple_33 : decode cX6_topple 33 = .ok (.invokevirtual 143, 3) := by decide +kernel
theorem dX6_topple_36 : decode cX6_topple 36 = .ok (.iconst 1, 1) := by decide +kernel
theorem dX6_topple_37 : decode cX6_topple 37 = .ok (.ireturn, 1) := by decide +kernel
set_option maxRecDepth 20000 in
theorem ggX6_isStill_X6_size : GoodIn wsX6_isStill wsX6_size := goodIn_r _ [5, 6, 7, 22, 23, 24, 25, 26, 27, 28, 29, 30, 31, 32, 33, 34, 35, 36, 37, 38, 39, 40] (by decide +kernel) (by decide +kernel)
set_option maxRecDepth 20000 in
theorem gX6_isStill_X6_size : GoodIn wsX6_isStill (wsV RX6 129 RX6 yX6_size wsX6_size) := goodIn_app (goodIn_of _ (by decide +kernel)) ggX6_isStill_X6_size
set_option maxRecDepth 20000 in
theorem ggX6_isStill_X6_may : GoodIn wsX6_isStill wsX6_may := goodIn_r _ [11, 12, 7, 13, 14, 15, 4, 16, 6, 17, 18, 19, 20, 21, 22, 23, 24, 25, 26, 27, 28, 29, 30, 31, 32, 33, 34, 35, 36, 37, 38, 39, 40] (by decide +kernel) (by decide +kernel)
set_option maxRecDepth 20000 in
theorem gX6_isStill_X6_may : GoodIn wsX6_isStill (wsV RX6 140 RX6 yX6_may wsX6_may) := goodIn_app (goodIn_of _ (by decide +kernel)) ggX6_isStill_X6_may
theorem dX6_isStill_0 : decode cX6_isStill 0 = .ok (.iconst 1, 1) := by decide +kernel
theorem dX6_isStill_1 : decode cX6_isStill 1 = .ok (.istore_n 2, 1) := by decide +kernel
theorem dX6_isStill_2 : decode cX6_isStill 2 = .ok (.iconst 1, 1) := by decide +kernel
theorem dX6_isStill_3 : decode cX6_isStill 3 = .ok (.istore_n 3, 1) := by decide +kernel
theorem dX6_isStill_4 : decode cX6_isStill 4 = .ok (.iload_n 3, 1) := by decide +kernel
theorem dX6_isStill_5 : decode cX6_isStill 5 = .ok (.aload_n 0, 1) := by decide +kernel
theorem dX6_isStill_6 : decode cX6_isStill 6 = .ok (.iload_n 1, 1) := by decide +kernel
theorem dX6_isStill_7 : decode cX6_isStill 7 = .ok (.invokevirtual 129, 3) := by decide +kernel
theorem dX6_isStill_10 : decode cX6_isStill 10 = .ok (.if_icmp .ge 28, 3) := by decide +kernel
theorem dX6_isStill_13 : decode cX6_isStill 13 = .ok (.iload_n 2, 1) := by decide +kernel
theorem dX6_isStill_14 : decode cX6_isStill 14 = .ok (.ifCond .eq 16, 3) := by decide +kernel
theorem dX6_isStill_17 : decode cX6_isStill 17 = .ok (.aload_n 0, 1) := by decide +kernel
theorem dX6_isStill_18 : decode cX6_isStill 18 = .ok (.iload_n 1, 1) := by decide +kernel
theorem dX6_isStill_19 : decode cX6_isStill 19 = .ok (.iload_n 3, 1) := by decide +kernel
theorem dX6_isStill_20 : decode cX6_isStill 20 = .ok (.invokevirtual 140, 3) := by decide +kernel
theorem dX6_isStill_23 : decode cX6_isStill 23 = .ok (.ifCond .ne 7, 3) := by decide +kernel
theorem dX6_isStill_26 : decode cX6_isStill 26 = .ok (.iconst 1, 1) := by decide +kernel
theorem dX6_isStill_27 : decode cX6_isStill 27 = .ok (.goto 4, 3) := by decide +kernel
theorem dX6_isStill_30 : decode cX6_isStill 30 = .ok (.iconst 0, 1) := by decide +kernel
theorem dX6_isStill_31 : decode cX6_isStill 31 = .ok (.istore_n 2, 1) := by decide +kernel
theorem dX6_isStill_32 : decode cX6_isStill 32 = .ok (.iinc 3 1, 3) := by decide +kernel
theorem dX6_isStill_35 : decode cX6_isStill 35 = .ok (.goto (-31), 3) := by decide +kernel
theorem dX6_isStill_38 : decode cX6_isStill 38 = .ok (.iload_n 2, 1) := by decide +kernel
theorem dX6_isStill_39 : decode cX6_isStill 39 = .ok (.ireturn, 1) := by decide +kernel
set_option maxRecDepth 20000 in
theorem ggX6_settles_X6_isStill : GoodIn wsX6_settles wsX6_isStill := goodIn_r _ [8, 9, 10, 11, 7, 12, 13, 3, 14, 15, 16, 17, 2, 18, 19, 20, 21, 22, 23, 24, 25, 26, 31, 32, 33, 34, 35, 36, 37, 38, 39, 40, 41, 42, 43, 44, 45, 46, 47, 48, 49] (by decide +kernel) (by decide +kernel)
set_option maxRecDepth 20000 in
theorem gX6_settles_X6_isStill : GoodIn wsX6_settles (wsV RX6 147 RX6 yX6_isStill wsX6_isStill) := goodIn_app (goodIn_of _ (by decide +kernel)) ggX6_settles_X6_isStill
set_option maxRecDepth 20000 in
theorem ggX6_settles_X6_size : GoodIn wsX6_settles wsX6_size := goodIn_r _ [12, 13, 3, 31, 32, 33, 34, 35, 36, 37, 38, 39, 40, 41, 42, 43, 44, 45, 46, 47, 48, 49] (by decide +kernel) (by decide +kernel)
set_option maxRecDepth 20000 in
theorem gX6_settles_X6_size : GoodIn wsX6_settles (wsV RX6 129 RX6 yX6_size wsX6_size) := goodIn_app (goodIn_of _ (by decide +kernel)) ggX6_settles_X6_size
set_option maxRecDepth 20000 in
theorem ggX6_settles_X6_degreeOf : GoodIn wsX6_settles wsX6_degreeOf := goodIn_r _ [21, 13, 22, 23, 24, 7, 25, 26, 31, 32, 33, 34, 35, 36, 37, 38, 39, 40, 41, 42, 43, 44, 45, 46, 47, 48, 49] (by decide +kernel) (by decide +kernel)
set_option maxRecDepth 20000 in
theorem gX6_settles_X6_degreeOf : GoodIn wsX6_settles (wsV RX6 83 RX6 yX6_degreeOf wsX6_degreeOf) := goodIn_app (goodIn_of _ (by decide +kernel)) ggX6_settles_X6_degreeOf
set_option maxRecDepth 20000 in
theorem ggX6_settles_X6_topples : GoodIn wsX6_settles wsX6_topples := goodIn_r _ [30, 3, 2, 9, 10, 11, 7, 12, 13, 22, 23, 24, 25, 26, 18, 19, 20, 21, 31, 32, 33, 34, 35, 36, 37, 38, 39, 40, 41, 42, 43, 44, 45, 46, 47, 48, 49] (by decide +kernel) (by decide +kernel)
set_option maxRecDepth 20000 in
theorem gX6_settles_X6_topples : GoodIn wsX6_settles (wsV RX6 143 RX6 yX6_topples wsX6_topples) := goodIn_app (goodIn_of _ (by decide +kernel)) ggX6_settles_X6_topples
theorem dX6_settles_0 : decode cX6_settles 0 = .ok (.lconst 0, 1) := by decide +kernel
theorem dX6_settles_1 : decode cX6_settles 1 = .ok (.lstore_n 2, 1) := by decide +kernel
theorem dX6_settles_2 : decode cX6_settles 2 = .ok (.iconst 0, 1) := by decide +kernel
theorem dX6_settles_3 : decode cX6_settles 3 = .ok (.istore 4, 2) := by decide +kernel
theorem dX6_settles_5 : decode cX6_settles 5 = .ok (.iload 4, 2) := by decide +kernel
theorem dX6_settles_7 : decode cX6_settles 7 = .ok (.bipush 8, 2) := by decide +kernel
theorem dX6_settles_9 : decode cX6_settles 9 = .ok (.if_icmp .ge 22, 3) := by decide +kernel
theorem dX6_settles_12 : decode cX6_settles 12 = .ok (.aload_n 0, 1) := by decide +kernel
theorem dX6_settles_13 : decode cX6_settles 13 = .ok (.getfield 27, 3) := by decide +kernel
theorem dX6_settles_16 : decode cX6_settles 16 = .ok (.bipush 8, 2) := by decide +kernel
theorem dX6_settles_18 : decode cX6_settles 18 = .ok (.iload_n 1, 1) := by decide +kernel
theorem dX6_settles_19 : decode cX6_settles 19 = .ok (.imul, 1) := by decide +kernel
theorem dX6_settles_20 : decode cX6_settles 20 = .ok (.iload 4, 2) := by decide +kernel
theorem dX6_settles_22 : decode cX6_settles 22 = .ok (.iadd, 1) := by decide +kernel
theorem dX6_settles_23 : decode cX6_settles 23 = .ok (.lconst 0, 1) := by decide +kernel
theorem dX6_settles_24 : decode cX6_settles 24 = .ok (.lastore, 1) := by decide +kernel
theorem dX6_settles_25 : decode cX6_settles 25 = .ok (.iinc 4 1, 3) := by decide +kernel
theorem dX6_settles_28 : decode cX6_settles 28 = .ok (.goto (-23), 3) := by decide +kernel
theorem dX6_settles_31 : decode cX6_settles 31 = .ok (.aload_n 0, 1) := by decide +kernel
theorem dX6_settles_32 : decode cX6_settles 32 = .ok (.iload_n 1, 1) := by decide +kernel
theorem dX6_settles_33 : decode cX6_settles 33 = .ok (.invokevirtual 147, 3) := by decide +kernel
theorem dX6_settles_36 : decode cX6_settles 36 = .ok (.ifCond .ne 95, 3) := by decide +kernel
theorem dX6_settles_39 : decode cX6_settles 39 = .ok (.aload_n 0, 1) := by decide +kernel
theorem dX6_settles_40 : decode cX6_settles 40 = .ok (.iload_n 1, 1) := by decide +kernel
theorem dX6_settles_41 : decode cX6_settles 41 = .ok (.invokevirtual 129, 3) := by decide +kernel
theorem dX6_settles_44 : decode cX6_settles 44 = .ok (.iconst 1, 1) := by decide +kernel
theorem dX6_settles_45 : decode cX6_settles 45 = .ok (.isub, 1) := by decide +kernel
theorem dX6_settles_46 : decode cX6_settles 46 = .ok (.istore 4, 2) := by decide +kernel
theorem dX6_settles_48 : decode cX6_settles 48 = .ok (.iload 4, 2) := by decide +kernel
theorem dX6_settles_50 : decode cX6_settles 50 = .ok (.ifCond .le 78, 3) := by decide +kernel
theorem dX6_settles_53 : decode cX6_settles 53 = .ok (.aload_n 0, 1) := by decide +kernel
theorem dX6_settles_54 : decode cX6_settles 54 = .ok (.getfield 23, 3) := by decide +kernel
theorem dX6_settles_57 : decode cX6_settles 57 = .ok (.bipush 8, 2) := by decide +kernel
theorem dX6_settles_59 : decode cX6_settles 59 = .ok (.iload_n 1, 1) := by decide +kernel
theorem dX6_settles_60 : decode cX6_settles 60 = .ok (.imul, 1) := by decide +kernel
theorem dX6_settles_61 : decode cX6_settles 61 = .ok (.iload 4, 2) := by decide +kernel
theorem dX6_settles_63 : decode cX6_settles 63 = .ok (.iadd, 1) := by decide +kernel
theorem dX6_settles_64 : decode cX6_settles 64 = .ok (.laload, 1) := by decide +kernel
theorem dX6_settles_65 : decode cX6_settles 65 = .ok (.aload_n 0, 1) := by decide +kernel
theorem dX6_settles_66 : decode cX6_settles 66 = .ok (.aload_n 0, 1) := by decide +kernel
theorem dX6_settles_67 : decode cX6_settles 67 = .ok (.getfield 16, 3) := by decide +kernel
theorem dX6_settles_70 : decode cX6_settles 70 = .ok (.iload_n 1, 1) := by decide +kernel
theorem dX6_settles_71 : decode cX6_settles 71 = .ok (.iaload, 1) := by decide +kernel
theorem dX6_settles_72 : decode cX6_settles 72 = .ok (.iload 4, 2) := by decide +kernel
theorem dX6_settles_74 : decode cX6_settles 74 = .ok (.invokevirtual 83, 3) := by decide +kernel
theorem dX6_settles_77 : decode cX6_settles 77 = .ok (.i2l, 1) := by decide +kernel
theorem dX6_settles_78 : decode cX6_settles 78 = .ok (.ldiv, 1) := by decide +kernel
theorem dX6_settles_79 : decode cX6_settles 79 = .ok (.lstore 5, 2) := by decide +kernel
theorem dX6_settles_81 : decode cX6_settles 81 = .ok (.lload 5, 2) := by decide +kernel
theorem dX6_settles_83 : decode cX6_settles 83 = .ok (.lconst 0, 1) := by decide +kernel
theorem dX6_settles_84 : decode cX6_settles 84 = .ok (.lcmp, 1) := by decide +kernel
theorem dX6_settles_85 : decode cX6_settles 85 = .ok (.ifCond .ne 6, 3) := by decide +kernel
theorem dX6_settles_88 : decode cX6_settles 88 = .ok (.goto 34, 3) := by decide +kernel
theorem dX6_settles_91 : decode cX6_settles 91 = .ok (.aload_n 0, 1) := by decide +kernel
theorem dX6_settles_92 : decode cX6_settles 92 = .ok (.iload_n 1, 1) := by decide +kernel
theorem dX6_settles_93 : decode cX6_settles 93 = .ok (.iload 4, 2) := by decide +kernel
theorem dX6_settles_95 : decode cX6_settles 95 = .ok (.lload 5, 2) := by decide +kernel
theorem dX6_settles_97 : decode cX6_settles 97 = .ok (.invokevirtual 143, 3) := by decide +kernel
theorem dX6_settles_100 : decode cX6_settles 100 = .ok (.aload_n 0, 1) := by decide +kernel
theorem dX6_settles_101 : decode cX6_settles 101 = .ok (.getfield 27, 3) := by decide +kernel
theorem dX6_settles_104 : decode cX6_settles 104 = .ok (.bipush 8, 2) := by decide +kernel
theorem dX6_settles_106 : decode cX6_settles 106 = .ok (.iload_n 1, 1) := by decide +kernel
theorem dX6_settles_107 : decode cX6_settles 107 = .ok (.imul, 1) := by decide +kernel
theorem dX6_settles_108 : decode cX6_settles 108 = .ok (.iload 4, 2) := by decide +kernel
theorem dX6_settles_110 : decode cX6_settles 110 = .ok (.iadd, 1) := by decide +kernel
theorem dX6_settles_111 : decode cX6_settles 111 = .ok (.dup2, 1) := by decide +kernel
theorem dX6_settles_112 : decode cX6_settles 112 = .ok (.laload, 1) := by decide +kernel
theorem dX6_settles_113 : decode cX6_settles 113 = .ok (.lload 5, 2) := by decide +kernel
theorem dX6_settles_115 : decode cX6_settles 115 = .ok (.ladd, 1) := by decide +kernel
theorem dX6_settles_116 : decode cX6_settles 116 = .ok (.lastore, 1) := by decide +kernel
theorem dX6_settles_117 : decode cX6_settles 117 = .ok (.lload_n 2, 1) := by decide +kernel
theorem dX6_settles_118 : decode cX6_settles 118 = .ok (.lload 5, 2) := by decide +kernel
theorem dX6_settles_120 : decode cX6_settles 120 = .ok (.ladd, 1) := by decide +kernel
theorem dX6_settles_121 : decode cX6_settles 121 = .ok (.lstore_n 2, 1) := by decide +kernel
theorem dX6_settles_122 : decode cX6_settles 122 = .ok (.iinc 4 (-1), 3) := by decide +kernel
theorem dX6_settles_125 : decode cX6_settles 125 = .ok (.goto (-77), 3) := by decide +kernel
theorem dX6_settles_128 : decode cX6_settles 128 = .ok (.goto (-97), 3) := by decide +kernel
theorem dX6_settles_131 : decode cX6_settles 131 = .ok (.lload_n 2, 1) := by decide +kernel
theorem dX6_settles_132 : decode cX6_settles 132 = .ok (.lreturn, 1) := by decide +kernel
set_option maxRecDepth 20000 in
theorem ggX6_settle_X6_isHeap : GoodIn wsX6_settle wsX6_isHeap := goodIn_r _ [5, 6, 7, 8, 9, 10, 4, 11, 45, 46, 47, 48, 49, 50, 51, 52, 53, 54, 55, 56, 57, 58, 59, 60, 61, 62, 63] (by decide +kernel) (by decide +kernel)
set_option maxRecDepth 20000 in
theorem gX6_settle_X6_isHeap : GoodIn wsX6_settle (wsV RX6 132 RX6 yX6_isHeap wsX6_isHeap) := goodIn_app (goodIn_of _ (by decide +kernel)) ggX6_settle_X6_isHeap
set_option maxRecDepth 20000 in
theorem ggX6_settle_X6_settles : GoodIn wsX6_settle wsX6_settles := goodIn_r _ [15, 16, 17, 18, 19, 20, 21, 4, 22, 23, 24, 25, 26, 27, 28, 29, 30, 31, 32, 33, 34, 35, 36, 37, 38, 39, 40, 41, 42, 43, 44, 45, 46, 47, 48, 49, 50, 51, 52, 53, 54, 55, 56, 57, 58, 59, 60, 61, 62, 63] (by decide +kernel) (by decide +kernel)
set_option maxRecDepth 20000 in
theorem gX6_settle_X6_settles : GoodIn wsX6_settle (wsV RX6 150 RX6 yX6_settles wsX6_settles) := goodIn_app (goodIn_of _ (by decide +kernel)) ggX6_settle_X6_settles
theorem dX6_settle_0 : decode cX6_settle 0 = .ok (.aload_n 0, 1) := by decide +kernel
theorem dX6_settle_1 : decode cX6_settle 1 = .ok (.iload_n 1, 1) := by decide +kernel
theorem dX6_settle_2 : decode cX6_settle 2 = .ok (.invokevirtual 132, 3) := by decide +kernel
theorem dX6_settle_5 : decode cX6_settle 5 = .ok (.ifCond .eq 11, 3) := by decide +kernel
theorem dX6_settle_8 : decode cX6_settle 8 = .ok (.aload_n 0, 1) := by decide +kernel
theorem dX6_settle_9 : decode cX6_settle 9 = .ok (.iload_n 1, 1) := by decide +kernel
theorem dX6_settle_10 : decode cX6_settle 10 = .ok (.invokevirtual 150, 3) := by decide +kernel
theorem dX6_settle_13 : decode cX6_settle 13 = .ok (.goto 4, 3) := by decide +kernel
theorem dX6_settle_16 : decode cX6_settle 16 = .ok (.lconst 0, 1) := by decide +kernel
theorem dX6_settle_17 : decode cX6_settle 17 = .ok (.lreturn, 1) := by decide +kernel
set_option maxRecDepth 20000 in
theorem ggX6_drop_X6_isHeap : GoodIn wsX6_drop wsX6_isHeap := goodIn_r _ [6, 7, 8, 9, 10, 11, 5, 12, 49, 50, 51, 52, 53, 54, 55, 56, 57, 58, 59, 60, 61, 62, 63, 64, 65, 66, 67] (by decide +kernel) (by decide +kernel)
set_option maxRecDepth 20000 in
theorem gX6_drop_X6_isHeap : GoodIn wsX6_drop (wsV RX6 132 RX6 yX6_isHeap wsX6_isHeap) := goodIn_app (goodIn_of _ (by decide +kernel)) ggX6_drop_X6_isHeap
set_option maxRecDepth 20000 in
theorem ggX6_drop_X6_isIn : GoodIn wsX6_drop wsX6_isIn := goodIn_r _ [16, 17, 18, 19, 5, 20, 21, 22, 9, 10, 11, 12, 7, 49, 50, 51, 52, 53, 54, 55, 56, 57, 58, 59, 60, 61, 62, 63, 64, 65, 66, 67] (by decide +kernel) (by decide +kernel)
set_option maxRecDepth 20000 in
theorem gX6_drop_X6_isIn : GoodIn wsX6_drop (wsV RX6 135 RX6 yX6_isIn wsX6_isIn) := goodIn_app (goodIn_of _ (by decide +kernel)) ggX6_drop_X6_isIn
set_option maxRecDepth 20000 in
theorem ggX6_drop_X6_settles : GoodIn wsX6_drop wsX6_settles := goodIn_r _ [26, 27, 1, 22, 28, 29, 30, 5, 31, 17, 18, 19, 20, 21, 32, 33, 34, 35, 36, 37, 38, 39, 40, 41, 42, 43, 44, 45, 46, 47, 48, 49, 50, 51, 52, 53, 54, 55, 56, 57, 58, 59, 60, 61, 62, 63, 64, 65, 66, 67] (by decide +kernel) (by decide +kernel)
set_option maxRecDepth 20000 in
theorem gX6_drop_X6_settles : GoodIn wsX6_drop (wsV RX6 150 RX6 yX6_settles wsX6_settles) := goodIn_app (goodIn_of _ (by decide +kernel)) ggX6_drop_X6_settles
theorem dX6_drop_0 : decode cX6_drop 0 = .ok (.aload_n 0, 1) := by decide +kernel
theorem dX6_drop_1 : decode cX6_drop 1 = .ok (.iload_n 1, 1) := by decide +kernel
theorem dX6_drop_2 : decode cX6_drop 2 = .ok (.invokevirtual 132, 3) := by decide +kernel
theorem dX6_drop_5 : decode cX6_drop 5 = .ok (.ifCond .eq 13, 3) := by decide +kernel
theorem dX6_drop_8 : decode cX6_drop 8 = .ok (.aload_n 0, 1) := by decide +kernel
theorem dX6_drop_9 : decode cX6_drop 9 = .ok (.iload_n 1, 1) := by decide +kernel
theorem dX6_drop_10 : decode cX6_drop 10 = .ok (.iload_n 2, 1) := by decide +kernel
theorem dX6_drop_11 : decode cX6_drop 11 = .ok (.iconst 1, 1) := by decide +kernel
theorem dX6_drop_12 : decode cX6_drop 12 = .ok (.invokevirtual 135, 3) := by decide +kernel
theorem dX6_drop_15 : decode cX6_drop 15 = .ok (.ifCond .ne 5, 3) := by decide +kernel
theorem dX6_drop_18 : decode cX6_drop 18 = .ok (.lconst 0, 1) := by decide +kernel
theorem dX6_drop_19 : decode cX6_drop 19 = .ok (.lreturn, 1) := by decide +kernel
theorem dX6_drop_20 : decode cX6_drop 20 = .ok (.aload_n 0, 1) := by decide +kernel
theorem dX6_drop_21 : decode cX6_drop 21 = .ok (.getfield 23, 3) := by decide +kernel
theorem dX6_drop_24 : decode cX6_drop 24 = .ok (.bipush 8, 2) := by decide +kernel
theorem dX6_drop_26 : decode cX6_drop 26 = .ok (.iload_n 1, 1) := by decide +kernel
theorem dX6_drop_27 : decode cX6_drop 27 = .ok (.imul, 1) := by decide +kernel
theorem dX6_drop_28 : decode cX6_drop 28 = .ok (.iload_n 2, 1) := by decide +kernel
theorem dX6_drop_29 : decode cX6_drop 29 = .ok (.iadd, 1) := by decide +kernel
theorem dX6_drop_30 : decode cX6_drop 30 = .ok (.dup2, 1) := by decide +kernel
theorem dX6_drop_31 : decode cX6_drop 31 = .ok (.laload, 1) := by decide +kernel
theorem dX6_drop_32 : decode cX6_drop 32 = .ok (.lconst 1, 1) := by decide +kernel
theorem dX6_drop_33 : decode cX6_drop 33 = .ok (.ladd, 1) := by decide +kernel
theorem dX6_drop_34 : decode cX6_drop 34 = .ok (.lastore, 1) := by decide +kernel
theorem dX6_drop_35 : decode cX6_drop 35 = .ok (.aload_n 0, 1) := by decide +kernel
theorem dX6_drop_36 : decode cX6_drop 36 = .ok (.iload_n 1, 1) := by decide +kernel
theorem dX6_drop_37 : decode cX6_drop 37 = .ok (.invokevirtual 150, 3) := by decide +kernel
theorem dX6_drop_40 : decode cX6_drop 40 = .ok (.lreturn, 1) := by decide +kernel
set_option maxRecDepth 20000 in
theorem ggX6_toppled_X6_isHeap : GoodIn wsX6_toppled wsX6_isHeap := goodIn_r _ [6, 7, 8, 9, 10, 11, 5, 12, 23, 24, 25, 26, 27, 28, 29, 30, 31, 32, 33, 34, 35, 36, 37, 38, 39, 40, 41] (by decide +kernel) (by decide +kernel)
set_option maxRecDepth 20000 in
theorem gX6_toppled_X6_isHeap : GoodIn wsX6_toppled (wsV RX6 132 RX6 yX6_isHeap wsX6_isHeap) := goodIn_app (goodIn_of _ (by decide +kernel)) ggX6_toppled_X6_isHeap
set_option maxRecDepth 20000 in
theorem ggX6_toppled_X6_isIn : GoodIn wsX6_toppled wsX6_isIn := goodIn_r _ [16, 17, 18, 19, 5, 20, 21, 22, 9, 10, 11, 12, 7, 23, 24, 25, 26, 27, 28, 29, 30, 31, 32, 33, 34, 35, 36, 37, 38, 39, 40, 41] (by decide +kernel) (by decide +kernel)
set_option maxRecDepth 20000 in
theorem gX6_toppled_X6_isIn : GoodIn wsX6_toppled (wsV RX6 135 RX6 yX6_isIn wsX6_isIn) := goodIn_app (goodIn_of _ (by decide +kernel)) ggX6_toppled_X6_isIn
theorem dX6_toppled_0 : decode cX6_toppled 0 = .ok (.aload_n 0, 1) := by decide +kernel
theorem dX6_toppled_1 : decode cX6_toppled 1 = .ok (.iload_n 1, 1) := by decide +kernel
theorem dX6_toppled_2 : decode cX6_toppled 2 = .ok (.invokevirtual 132, 3) := by decide +kernel
theorem dX6_toppled_5 : decode cX6_toppled 5 = .ok (.ifCond .eq 27, 3) := by decide +kernel
theorem dX6_toppled_8 : decode cX6_toppled 8 = .ok (.aload_n 0, 1) := by decide +kernel
theorem dX6_toppled_9 : decode cX6_toppled 9 = .ok (.iload_n 1, 1) := by decide +kernel
theorem dX6_toppled_10 : decode cX6_toppled 10 = .ok (.iload_n 2, 1) := by decide +kernel
theorem dX6_toppled_11 : decode cX6_toppled 11 = .ok (.iconst 0, 1) := by decide +kernel
theorem dX6_toppled_12 : decode cX6_toppled 12 = .ok (.invokevirtual 135, 3) := by decide +kernel
theorem dX6_toppled_15 : decode cX6_toppled 15 = .ok (.ifCond .eq 17, 3) := by decide +kernel
theorem dX6_toppled_18 : decode cX6_toppled 18 = .ok (.aload_n 0, 1) := by decide +kernel
theorem dX6_toppled_19 : decode cX6_toppled 19 = .ok (.getfield 27, 3) := by decide +kernel
theorem dX6_toppled_22 : decode cX6_toppled 22 = .ok (.bipush 8, 2) := by decide +kernel
theorem dX6_toppled_24 : decode cX6_toppled 24 = .ok (.iload_n 1, 1) := by decide +kernel
theorem dX6_toppled_25 : decode cX6_toppled 25 = .ok (.imul, 1) := by decide +kernel
theorem dX6_toppled_26 : decode cX6_toppled 26 = .ok (.iload_n 2, 1) := by decide +kernel
theorem dX6_toppled_27 : decode cX6_toppled 27 = .ok (.iadd, 1) := by decide +kernel
theorem dX6_toppled_28 : decode cX6_toppled 28 = .ok (.laload, 1) := by decide +kernel
theorem dX6_toppled_29 : decode cX6_toppled 29 = .ok (.goto 4, 3) := by decide +kernel
theorem dX6_toppled_32 : decode cX6_toppled 32 = .ok (.lconst 0, 1) := by decide +kernel
theorem dX6_toppled_33 : decode cX6_toppled 33 = .ok (.lreturn, 1) := by decide +kernel
set_option maxRecDepth 20000 in
theorem ggX6_allBurn_X6_size : GoodIn wsX6_allBurn wsX6_size := goodIn_r _ [8, 9, 1, 19, 20, 21, 22, 23, 24, 25, 26, 27, 28, 29, 30, 31, 32, 33, 34, 35, 36, 37] (by decide +kernel) (by decide +kernel)
set_option maxRecDepth 20000 in
theorem gX6_allBurn_X6_size : GoodIn wsX6_allBurn (wsV RX6 129 RX6 yX6_size wsX6_size) := goodIn_app (goodIn_of _ (by decide +kernel)) ggX6_allBurn_X6_size
set_option maxRecDepth 20000 in
theorem ggX6_allBurn_X6_degreeOf : GoodIn wsX6_allBurn wsX6_degreeOf := goodIn_r _ [13, 9, 14, 15, 16, 7, 17, 18, 19, 20, 21, 22, 23, 24, 25, 26, 27, 28, 29, 30, 31, 32, 33, 34, 35, 36, 37] (by decide +kernel) (by decide +kernel)
set_option maxRecDepth 20000 in
theorem gX6_allBurn_X6_degreeOf : GoodIn wsX6_allBurn (wsV RX6 83 RX6 yX6_degreeOf wsX6_degreeOf) := goodIn_app (goodIn_of _ (by decide +kernel)) ggX6_allBurn_X6_degreeOf
set_option maxRecDepth 20000 in
theorem ggX6_allBurn_X6_between : GoodIn wsX6_allBurn wsX6_between := goodIn_r _ [17, 18, 19, 20, 21, 22, 23, 24, 25, 26, 27, 28, 29, 30, 31, 32, 33, 34, 35, 36, 37] (by decide +kernel) (by decide +kernel)
set_option maxRecDepth 20000 in
theorem gX6_allBurn_X6_between : GoodIn wsX6_allBurn (wsV RX6 79 RX6 yX6_between wsX6_between) := goodIn_app (goodIn_of _ (by decide +kernel)) ggX6_allBurn_X6_between
theorem dX6_allBurn_0 : decode cX6_allBurn 0 = .ok (.aload_n 0, 1) := by decide +kernel
theorem dX6_allBurn_1 : decode cX6_allBurn 1 = .ok (.getfield 16, 3) := by decide +kernel
theorem dX6_allBurn_4 : decode cX6_allBurn 4 = .ok (.iload_n 1, 1) := by decide +kernel
theorem dX6_allBurn_5 : decode cX6_allBurn 5 = .ok (.iaload, 1) := by decide +kernel
theorem dX6_allBurn_6 : decode cX6_allBurn 6 = .ok (.istore_n 2, 1) := by decide +kernel
theorem dX6_allBurn_7 : decode cX6_allBurn 7 = .ok (.iconst 0, 1) := by decide +kernel
theorem dX6_allBurn_8 : decode cX6_allBurn 8 = .ok (.istore_n 3, 1) := by decide +kernel
theorem dX6_allBurn_9 : decode cX6_allBurn 9 = .ok (.iload_n 3, 1) := by decide +kernel
theorem dX6_allBurn_10 : decode cX6_allBurn 10 = .ok (.bipush 8, 2) := by decide +kernel
theorem dX6_allBurn_12 : decode cX6_allBurn 12 = .ok (.if_icmp .ge 24, 3) := by decide +kernel
theorem dX6_allBurn_15 : decode cX6_allBurn 15 = .ok (.aload_n 0, 1) := by decide +kernel
theorem dX6_allBurn_16 : decode cX6_allBurn 16 = .ok (.getfield 36, 3) := by decide +kernel
theorem dX6_allBurn_19 : decode cX6_allBurn 19 = .ok (.iload_n 3, 1) := by decide +kernel
theorem dX6_allBurn_20 : decode cX6_allBurn 20 = .ok (.iload_n 3, 1) := by decide +kernel
theorem dX6_allBurn_21 : decode cX6_allBurn 21 = .ok (.ifCond .ne 7, 3) := by decide +kernel
theorem dX6_allBurn_24 : decode cX6_allBurn 24 = .ok (.iconst 0, 1) := by decide +kernel
theorem dX6_allBurn_25 : decode cX6_allBurn 25 = .ok (.goto 4, 3) := by decide +kernel
theorem dX6_allBurn_28 : decode cX6_allBurn 28 = .ok (.iconst (-1), 1) := by decide +kernel
theorem dX6_allBurn_29 : decode cX6_allBurn 29 = .ok (.iastore, 1) := by decide +kernel
theorem dX6_allBurn_30 : decode cX6_allBurn 30 = .ok (.iinc 3 1, 3) := by decide +kernel
theorem dX6_allBurn_33 : decode cX6_allBurn 33 = .ok (.goto (-24), 3) := by decide +kernel
theorem dX6_allBurn_36 : decode cX6_allBurn 36 = .ok (.iconst 0, 1) := by decide +kernel
theorem dX6_allBurn_37 : decode cX6_allBurn 37 = .ok (.istore_n 3, 1) := by decide +kernel
theorem dX6_allBurn_38 : decode cX6_allBurn 38 = .ok (.iconst 1, 1) := by decide +kernel
theorem dX6_allBurn_39 : decode cX6_allBurn 39 = .ok (.istore 4, 2) := by decide +kernel
theorem dX6_allBurn_41 : decode cX6_allBurn 41 = .ok (.iconst 1, 1) := by decide +kernel
theorem dX6_allBurn_42 : decode cX6_allBurn 42 = .ok (.istore 5, 2) := by decide +kernel
theorem dX6_allBurn_44 : decode cX6_allBurn 44 = .ok (.iload 4, 2) := by decide +kernel
theorem dX6_allBurn_46 : decode cX6_allBurn 46 = .ok (.ifCond .eq 148, 3) := by decide +kernel
theorem dX6_allBurn_49 : decode cX6_allBurn 49 = .ok (.iconst 0, 1) := by decide +kernel
theorem dX6_allBurn_50 : decode cX6_allBurn 50 = .ok (.istore 4, 2) := by decide +kernel
theorem dX6_allBurn_52 : decode cX6_allBurn 52 = .ok (.iconst 1, 1) := by decide +kernel
theorem dX6_allBurn_53 : decode cX6_allBurn 53 = .ok (.istore_n 3, 1) := by decide +kernel
theorem dX6_allBurn_54 : decode cX6_allBurn 54 = .ok (.iconst 1, 1) := by decide +kernel
theorem dX6_allBurn_55 : decode cX6_allBurn 55 = .ok (.istore 6, 2) := by decide +kernel
theorem dX6_allBurn_57 : decode cX6_allBurn 57 = .ok (.iload 6, 2) := by decide +kernel
theorem dX6_allBurn_59 : decode cX6_allBurn 59 = .ok (.aload_n 0, 1) := by decide +kernel
theorem dX6_allBurn_60 : decode cX6_allBurn 60 = .ok (.iload_n 1, 1) := by decide +kernel
theorem dX6_allBurn_61 : decode cX6_allBurn 61 = .ok (.invokevirtual 129, 3) := by decide +kernel
theorem dX6_allBurn_64 : decode cX6_allBurn 64 = .ok (.if_icmp .ge 124, 3) := by decide +kernel
theorem dX6_allBurn_67 : decode cX6_allBurn 67 = .ok (.aload_n 0, 1) := by decide +kernel
theorem dX6_allBurn_68 : decode cX6_allBurn 68 = .ok (.getfield 36, 3) := by decide +kernel
theorem dX6_allBurn_71 : decode cX6_allBurn 71 = .ok (.iload 6, 2) := by decide +kernel
theorem dX6_allBurn_73 : decode cX6_allBurn 73 = .ok (.iaload, 1) := by decide +kernel
theorem dX6_allBurn_74 : decode cX6_allBurn 74 = .ok (.iconst (-1), 1) := by decide +kernel
theorem dX6_allBurn_75 : decode cX6_allBurn 75 = .ok (.if_icmp .eq 6, 3) := by decide +kernel
theorem dX6_allBurn_78 : decode cX6_allBurn 78 = .ok (.goto 104, 3) := by decide +kernel
theorem dX6_allBurn_81 : decode cX6_allBurn 81 = .ok (.aload_n 0, 1) := by decide +kernel
theorem dX6_allBurn_82 : decode cX6_allBurn 82 = .ok (.iload_n 2, 1) := by decide +kernel
theorem dX6_allBurn_83 : decode cX6_allBurn 83 = .ok (.iload 6, 2) := by decide +kernel
theorem dX6_allBurn_85 : decode cX6_allBurn 85 = .ok (.invokevirtual 83, 3) := by decide +kernel
theorem dX6_allBurn_88 : decode cX6_allBurn 88 = .ok (.istore 7, 2) := by decide +kernel
theorem dX6_allBurn_90 : decode cX6_allBurn 90 = .ok (.iconst 0, 1) := by decide +kernel
theorem dX6_allBurn_91 : decode cX6_allBurn 91 = .ok (.istore 8, 2) := by decide +kernel
theorem dX6_allBurn_93 : decode cX6_allBurn 93 = .ok (.iload 8, 2) := by decide +kernel
theorem dX6_allBurn_95 : decode cX6_allBurn 95 = .ok (.aload_n 0, 1) := by decide +kernel
theorem dX6_allBurn_96 : decode cX6_allBurn 96 = .ok (.iload_n 1, 1) := by decide +kernel
theorem dX6_allBurn_97 : decode cX6_allBurn 97 = .ok (.invokevirtual 129, 3) := by decide +kernel
theorem dX6_allBurn_100 : decode cX6_allBurn 100 = .ok (.if_icmp .ge 46, 3) := by decide +kernel
theorem dX6_allBurn_103 : decode cX6_allBurn 103 = .ok (.aload_n 0, 1) := by decide +kernel
theorem dX6_allBurn_104 : decode cX6_allBurn 104 = .ok (.getfield 36, 3) := by decide +kernel
theorem dX6_allBurn_107 : decode cX6_allBurn 107 = .ok (.iload 8, 2) := by decide +kernel
theorem dX6_allBurn_109 : decode cX6_allBurn 109 = .ok (.iaload, 1) := by decide +kernel
theorem dX6_allBurn_110 : decode cX6_allBurn 110 = .ok (.iconst (-1), 1) := by decide +kernel
theorem dX6_allBurn_111 : decode cX6_allBurn 111 = .ok (.if_icmp .eq 29, 3) := by decide +kernel
theorem dX6_allBurn_114 : decode cX6_allBurn 114 = .ok (.aload_n 0, 1) := by decide +kernel
theorem dX6_allBurn_115 : decode cX6_allBurn 115 = .ok (.getfield 36, 3) := by decide +kernel
theorem dX6_allBurn_118 : decode cX6_allBurn 118 = .ok (.iload 8, 2) := by decide +kernel
theorem dX6_allBurn_120 : decode cX6_allBurn 120 = .ok (.iaload, 1) := by decide +kernel
theorem dX6_allBurn_121 : decode cX6_allBurn 121 = .ok (.iload 5, 2) := by decide +kernel
theorem dX6_allBurn_123 : decode cX6_allBurn 123 = .ok (.if_icmp .ge 17, 3) := by decide +kernel
theorem dX6_allBurn_126 : decode cX6_allBurn 126 = .ok (.iload 7, 2) := by decide +kernel
theorem dX6_allBurn_128 : decode cX6_allBurn 128 = .ok (.aload_n 0, 1) := by decide +kernel
theorem dX6_allBurn_129 : decode cX6_allBurn 129 = .ok (.iload_n 2, 1) := by decide +kernel
theorem dX6_allBurn_130 : decode cX6_allBurn 130 = .ok (.iload 6, 2) := by decide +kernel
theorem dX6_allBurn_132 : decode cX6_allBurn 132 = .ok (.iload 8, 2) := by decide +kernel
theorem dX6_allBurn_134 : decode cX6_allBurn 134 = .ok (.invokevirtual 79, 3) := by decide +kernel
theorem dX6_allBurn_137 : decode cX6_allBurn 137 = .ok (.isub, 1) := by decide +kernel
theorem dX6_allBurn_138 : decode cX6_allBurn 138 = .ok (.istore 7, 2) := by decide +kernel
theorem dX6_allBurn_140 : decode cX6_allBurn 140 = .ok (.iinc 8 1, 3) := by decide +kernel
theorem dX6_allBurn_143 : decode cX6_allBurn 143 = .ok (.goto (-50), 3) := by decide +kernel
theorem dX6_allBurn_146 : decode cX6_allBurn 146 = .ok (.aload_n 0, 1) := by decide +kernel
theorem dX6_allBurn_147 : decode cX6_allBurn 147 = .ok (.getfield 23, 3) := by decide +kernel
theorem dX6_allBurn_150 : decode cX6_allBurn 150 = .ok (.bipush 8, 2) := by decide +kernel
theorem dX6_allBurn_152 : decode cX6_allBurn 152 = .ok (.iload_n 1, 1) := by decide +kernel
theorem dX6_allBurn_153 : decode cX6_allBurn 153 = .ok (.imul, 1) := by decide +kernel
theorem dX6_allBurn_154 : decode cX6_allBurn 154 = .ok (.iload 6, 2) := by decide +kernel
theorem dX6_allBurn_156 : decode cX6_allBurn 156 = .ok (.iadd, 1) := by decide +kernel
theorem dX6_allBurn_157 : decode cX6_allBurn 157 = .ok (.laload, 1) := by decide +kernel
theorem dX6_allBurn_158 : decode cX6_allBurn 158 = .ok (.iload 7, 2) := by decide +kernel
theorem dX6_allBurn_160 : decode cX6_allBurn 160 = .ok (.i2l, 1) := by decide +kernel
theorem dX6_allBurn_161 : decode cX6_allBurn 161 = .ok (.lcmp, 1) := by decide +kernel
theorem dX6_allBurn_162 : decode cX6_allBurn 162 = .ok (.ifCond .lt 18, 3) := by decide +kernel
theorem dX6_allBurn_165 : decode cX6_allBurn 165 = .ok (.aload_n 0, 1) := by decide +kernel
theorem dX6_allBurn_166 : decode cX6_allBurn 166 = .ok (.getfield 36, 3) := by decide +kernel
theorem dX6_allBurn_169 : decode cX6_allBurn 169 = .ok (.iload 6, 2) := by decide +kernel
theorem dX6_allBurn_171 : decode cX6_allBurn 171 = .ok (.iload 5, 2) := by decide +kernel
theorem dX6_allBurn_173 : decode cX6_allBurn 173 = .ok (.iastore, 1) := by decide +kernel
theorem dX6_allBurn_174 : decode cX6_allBurn 174 = .ok (.iconst 1, 1) := by decide +kernel
theorem dX6_allBurn_175 : decode cX6_allBurn 175 = .ok (.istore 4, 2) := by decide +kernel
theorem dX6_allBurn_177 : decode cX6_allBurn 177 = .ok (.goto 5, 3) := by decide +kernel
theorem dX6_allBurn_180 : decode cX6_allBurn 180 = .ok (.iconst 0, 1) := by decide +kernel
theorem dX6_allBurn_181 : decode cX6_allBurn 181 = .ok (.istore_n 3, 1) := by decide +kernel
theorem dX6_allBurn_182 : decode cX6_allBurn 182 = .ok (.iinc 6 1, 3) := by decide +kernel
theorem dX6_allBurn_185 : decode cX6_allBurn 185 = .ok (.goto (-128), 3) := by decide +kernel
theorem dX6_allBurn_188 : decode cX6_allBurn 188 = .ok (.iinc 5 1, 3) := by decide +kernel
theorem dX6_allBurn_191 : decode cX6_allBurn 191 = .ok (.goto (-147), 3) := by decide +kernel
theorem dX6_allBurn_194 : decode cX6_allBurn 194 = .ok (.iload_n 3, 1) := by decide +kernel
theorem dX6_allBurn_195 : decode cX6_allBurn 195 = .ok (.ireturn, 1) := by decide +kernel
set_option maxRecDepth 20000 in
theorem ggX6_comesAgain_X6_isStill : GoodIn wsX6_comesAgain wsX6_isStill := goodIn_r _ [5, 6, 7, 8, 4, 9, 10, 11, 12, 13, 14, 15, 16, 17, 18, 19, 20, 21, 22, 23, 24, 25, 31, 32, 33, 34, 35, 36, 37, 38, 39, 40, 41, 42, 43, 44, 45, 46, 47, 48, 49] (by decide +kernel) (by decide +kernel)
set_option maxRecDepth 20000 in
theorem gX6_comesAgain_X6_isStill : GoodIn wsX6_comesAgain (wsV RX6 147 RX6 yX6_isStill wsX6_isStill) := goodIn_app (goodIn_of _ (by decide +kernel)) ggX6_comesAgain_X6_isStill
set_option maxRecDepth 20000 in
theorem ggX6_comesAgain_X6_allBurn : GoodIn wsX6_comesAgain wsX6_allBurn := goodIn_r _ [29, 11, 30, 16, 6, 7, 8, 4, 9, 10, 17, 18, 19, 20, 21, 22, 23, 24, 25, 31, 32, 33, 34, 35, 36, 37, 38, 39, 40, 41, 42, 43, 44, 45, 46, 47, 48, 49] (by decide +kernel) (by decide +kernel)
set_option maxRecDepth 20000 in
theorem gX6_comesAgain_X6_allBurn : GoodIn wsX6_comesAgain (wsV RX6 153 RX6 yX6_allBurn wsX6_allBurn) := goodIn_app (goodIn_of _ (by decide +kernel)) ggX6_comesAgain_X6_allBurn
theorem dX6_comesAgain_0 : decode cX6_comesAgain 0 = .ok (.aload_n 0, 1) := by decide +kernel
theorem dX6_comesAgain_1 : decode cX6_comesAgain 1 = .ok (.iload_n 1, 1) := by decide +kernel
theorem dX6_comesAgain_2 : decode cX6_comesAgain 2 = .ok (.invokevirtual 147, 3) := by decide +kernel
theorem dX6_comesAgain_5 : decode cX6_comesAgain 5 = .ok (.ifCond .eq 15, 3) := by decide +kernel
theorem dX6_comesAgain_8 : decode cX6_comesAgain 8 = .ok (.aload_n 0, 1) := by decide +kernel
theorem dX6_comesAgain_9 : decode cX6_comesAgain 9 = .ok (.iload_n 1, 1) := by decide +kernel
theorem dX6_comesAgain_10 : decode cX6_comesAgain 10 = .ok (.invokevirtual 153, 3) := by decide +kernel
theorem dX6_comesAgain_13 : decode cX6_comesAgain 13 = .ok (.ifCond .eq 7, 3) := by decide +kernel
theorem dX6_comesAgain_16 : decode cX6_comesAgain 16 = .ok (.iconst 1, 1) := by decide +kernel
theorem dX6_comesAgain_17 : decode cX6_comesAgain 17 = .ok (.goto 4, 3) := by decide +kernel
theorem dX6_comesAgain_20 : decode cX6_comesAgain 20 = .ok (.iconst 0, 1) := by decide +kernel
theorem dX6_comesAgain_21 : decode cX6_comesAgain 21 = .ok (.ireturn, 1) := by decide +kernel
set_option maxRecDepth 20000 in
theorem ggX6_is_X6_isHeap : GoodIn wsX6_is wsX6_isHeap := goodIn_r _ [5, 6, 7, 8, 9, 10, 4, 11, 45, 46, 47, 48, 49, 50, 51, 52, 53, 54, 55, 56, 57, 58, 59, 60, 61, 62, 63] (by decide +kernel) (by decide +kernel)
set_option maxRecDepth 20000 in
theorem gX6_is_X6_isHeap : GoodIn wsX6_is (wsV RX6 132 RX6 yX6_isHeap wsX6_isHeap) := goodIn_app (goodIn_of _ (by decide +kernel)) ggX6_is_X6_isHeap
set_option maxRecDepth 20000 in
theorem ggX6_is_X6_right : GoodIn wsX6_is wsX6_right := goodIn_r _ [11, 6, 45, 46, 47, 48, 49, 50, 51, 52, 53, 54, 55, 56, 57, 58, 59, 60, 61, 62, 63] (by decide +kernel) (by decide +kernel)
set_option maxRecDepth 20000 in
theorem gX6_is_X6_right : GoodIn wsX6_is (wsV RX6 67 RX6 yX6_right wsX6_right) := goodIn_app (goodIn_of _ (by decide +kernel)) ggX6_is_X6_right
set_option maxRecDepth 20000 in
theorem ggX6_is_X6_isStill : GoodIn wsX6_is wsX6_isStill := goodIn_r _ [15, 16, 17, 18, 4, 19, 20, 21, 22, 23, 24, 25, 26, 27, 28, 29, 30, 31, 32, 33, 34, 35, 45, 46, 47, 48, 49, 50, 51, 52, 53, 54, 55, 56, 57, 58, 59, 60, 61, 62, 63] (by decide +kernel) (by decide +kernel)
set_option maxRecDepth 20000 in
theorem gX6_is_X6_isStill : GoodIn wsX6_is (wsV RX6 147 RX6 yX6_isStill wsX6_isStill) := goodIn_app (goodIn_of _ (by decide +kernel)) ggX6_is_X6_isStill
set_option maxRecDepth 20000 in
theorem ggX6_is_X6_comesAgain : GoodIn wsX6_is wsX6_comesAgain := goodIn_r _ [39, 12, 13, 14, 4, 15, 16, 17, 18, 19, 20, 21, 22, 23, 24, 25, 26, 27, 28, 29, 30, 31, 32, 33, 34, 35, 40, 41, 42, 43, 44, 45, 46, 47, 48, 49, 50, 51, 52, 53, 54, 55, 56, 57, 58, 59, 60, 61, 62, 63] (by decide +kernel) (by decide +kernel)
set_option maxRecDepth 20000 in
theorem gX6_is_X6_comesAgain : GoodIn wsX6_is (wsV RX6 156 RX6 yX6_comesAgain wsX6_comesAgain) := goodIn_app (goodIn_of _ (by decide +kernel)) ggX6_is_X6_comesAgain
theorem dX6_is_0 : decode cX6_is 0 = .ok (.aload_n 0, 1) := by decide +kernel
theorem dX6_is_1 : decode cX6_is 1 = .ok (.iload_n 1, 1) := by decide +kernel
theorem dX6_is_2 : decode cX6_is 2 = .ok (.invokevirtual 132, 3) := by decide +kernel
theorem dX6_is_5 : decode cX6_is 5 = .ok (.ifCond .eq 25, 3) := by decide +kernel
theorem dX6_is_8 : decode cX6_is 8 = .ok (.aload_n 0, 1) := by decide +kernel
theorem dX6_is_9 : decode cX6_is 9 = .ok (.iload_n 2, 1) := by decide +kernel
theorem dX6_is_10 : decode cX6_is 10 = .ok (.ifCond .eq 8, 3) := by decide +kernel
theorem dX6_is_13 : decode cX6_is 13 = .ok (.iload_n 2, 1) := by decide +kernel
theorem dX6_is_14 : decode cX6_is 14 = .ok (.iconst 1, 1) := by decide +kernel
theorem dX6_is_15 : decode cX6_is 15 = .ok (.if_icmp .ne 7, 3) := by decide +kernel
theorem dX6_is_18 : decode cX6_is 18 = .ok (.iconst 1, 1) := by decide +kernel
theorem dX6_is_19 : decode cX6_is 19 = .ok (.goto 4, 3) := by decide +kernel
theorem dX6_is_22 : decode cX6_is 22 = .ok (.iconst 0, 1) := by decide +kernel
theorem dX6_is_23 : decode cX6_is 23 = .ok (.iconst 1, 1) := by decide +kernel
theorem dX6_is_24 : decode cX6_is 24 = .ok (.invokevirtual 67, 3) := by decide +kernel
theorem dX6_is_27 : decode cX6_is 27 = .ok (.ifCond .ne 5, 3) := by decide +kernel
theorem dX6_is_30 : decode cX6_is 30 = .ok (.iconst 0, 1) := by decide +kernel
theorem dX6_is_31 : decode cX6_is 31 = .ok (.ireturn, 1) := by decide +kernel
theorem dX6_is_32 : decode cX6_is 32 = .ok (.iload_n 2, 1) := by decide +kernel
theorem dX6_is_33 : decode cX6_is 33 = .ok (.ifCond .ne 11, 3) := by decide +kernel
theorem dX6_is_36 : decode cX6_is 36 = .ok (.aload_n 0, 1) := by decide +kernel
theorem dX6_is_37 : decode cX6_is 37 = .ok (.iload_n 1, 1) := by decide +kernel
theorem dX6_is_38 : decode cX6_is 38 = .ok (.invokevirtual 147, 3) := by decide +kernel
theorem dX6_is_41 : decode cX6_is 41 = .ok (.goto 8, 3) := by decide +kernel
theorem dX6_is_44 : decode cX6_is 44 = .ok (.aload_n 0, 1) := by decide +kernel
theorem dX6_is_45 : decode cX6_is 45 = .ok (.iload_n 1, 1) := by decide +kernel
theorem dX6_is_46 : decode cX6_is 46 = .ok (.invokevirtual 156, 3) := by decide +kernel
theorem dX6_is_49 : decode cX6_is 49 = .ok (.ireturn, 1) := by decide +kernel
set_option maxRecDepth 20000 in
theorem ggX6_burns_X6_isHeap : GoodIn wsX6_burns wsX6_isHeap := goodIn_r _ [6, 7, 8, 9, 10, 11, 5, 12, 45, 46, 47, 48, 49, 50, 51, 52, 53, 54, 55, 56, 57, 58, 59, 60, 61, 62, 63] (by decide +kernel) (by decide +kernel)
set_option maxRecDepth 20000 in
theorem gX6_burns_X6_isHeap : GoodIn wsX6_burns (wsV RX6 132 RX6 yX6_isHeap wsX6_isHeap) := goodIn_app (goodIn_of _ (by decide +kernel)) ggX6_burns_X6_isHeap
set_option maxRecDepth 20000 in
theorem ggX6_burns_X6_isIn : GoodIn wsX6_burns wsX6_isIn := goodIn_r _ [16, 17, 18, 19, 5, 20, 21, 22, 9, 10, 11, 12, 7, 45, 46, 47, 48, 49, 50, 51, 52, 53, 54, 55, 56, 57, 58, 59, 60, 61, 62, 63] (by decide +kernel) (by decide +kernel)
set_option maxRecDepth 20000 in
theorem gX6_burns_X6_isIn : GoodIn wsX6_burns (wsV RX6 135 RX6 yX6_isIn wsX6_isIn) := goodIn_app (goodIn_of _ (by decide +kernel)) ggX6_burns_X6_isIn
set_option maxRecDepth 20000 in
theorem ggX6_burns_X6_isStill : GoodIn wsX6_burns wsX6_isStill := goodIn_r _ [26, 17, 18, 19, 5, 20, 21, 22, 27, 28, 29, 30, 31, 32, 33, 34, 35, 36, 37, 38, 39, 40, 45, 46, 47, 48, 49, 50, 51, 52, 53, 54, 55, 56, 57, 58, 59, 60, 61, 62, 63] (by decide +kernel) (by decide +kernel)
set_option maxRecDepth 20000 in
theorem gX6_burns_X6_isStill : GoodIn wsX6_burns (wsV RX6 147 RX6 yX6_isStill wsX6_isStill) := goodIn_app (goodIn_of _ (by decide +kernel)) ggX6_burns_X6_isStill
set_option maxRecDepth 20000 in
theorem ggX6_burns_X6_allBurn : GoodIn wsX6_burns wsX6_allBurn := goodIn_r _ [44, 22, 1, 31, 17, 18, 19, 5, 20, 21, 32, 33, 34, 35, 36, 37, 38, 39, 40, 45, 46, 47, 48, 49, 50, 51, 52, 53, 54, 55, 56, 57, 58, 59, 60, 61, 62, 63] (by decide +kernel) (by decide +kernel)
set_option maxRecDepth 20000 in
theorem gX6_burns_X6_allBurn : GoodIn wsX6_burns (wsV RX6 153 RX6 yX6_allBurn wsX6_allBurn) := goodIn_app (goodIn_of _ (by decide +kernel)) ggX6_burns_X6_allBurn
theorem dX6_burns_0 : decode cX6_burns 0 = .ok (.aload_n 0, 1) := by decide +kernel
theorem dX6_burns_1 : decode cX6_burns 1 = .ok (.iload_n 1, 1) := by decide +kernel
theorem dX6_burns_2 : decode cX6_burns 2 = .ok (.invokevirtual 132, 3) := by decide +kernel
theorem dX6_burns_5 : decode cX6_burns 5 = .ok (.ifCond .eq 13, 3) := by decide +kernel
theorem dX6_burns_8 : decode cX6_burns 8 = .ok (.aload_n 0, 1) := by decide +kernel
theorem dX6_burns_9 : decode cX6_burns 9 = .ok (.iload_n 1, 1) := by decide +kernel
theorem dX6_burns_10 : decode cX6_burns 10 = .ok (.iload_n 2, 1) := by decide +kernel

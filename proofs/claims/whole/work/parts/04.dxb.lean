theorem dX2_init_0 : decode cX2_init 0 = .ok (.aload_n 0, 1) := by decide +kernel
theorem dX2_init_1 : decode cX2_init 1 = .ok (.invokespecial 3, 3) := by decide +kernel
theorem dX2_init_4 : decode cX2_init 4 = .ok (.aload_n 0, 1) := by decide +kernel
theorem dX2_init_5 : decode cX2_init 5 = .ok (.bipush 8, 2) := by decide +kernel
theorem dX2_init_7 : decode cX2_init 7 = .ok (.newarray .long, 2) := by decide +kernel
theorem dX2_init_9 : decode cX2_init 9 = .ok (.putfield 9, 3) := by decide +kernel
theorem dX2_init_12 : decode cX2_init 12 = .ok (.aload_n 0, 1) := by decide +kernel
theorem dX2_init_13 : decode cX2_init 13 = .ok (.bipush 8, 2) := by decide +kernel
theorem dX2_init_15 : decode cX2_init 15 = .ok (.newarray .long, 2) := by decide +kernel
theorem dX2_init_17 : decode cX2_init 17 = .ok (.putfield 15, 3) := by decide +kernel
theorem dX2_init_20 : decode cX2_init 20 = .ok (.aload_n 0, 1) := by decide +kernel
theorem dX2_init_21 : decode cX2_init 21 = .ok (.bipush 8, 2) := by decide +kernel
theorem dX2_init_23 : decode cX2_init 23 = .ok (.newarray .long, 2) := by decide +kernel
theorem dX2_init_25 : decode cX2_init 25 = .ok (.putfield 18, 3) := by decide +kernel
theorem dX2_init_28 : decode cX2_init 28 = .ok (.aload_n 0, 1) := by decide +kernel
theorem dX2_init_29 : decode cX2_init 29 = .ok (.bipush 8, 2) := by decide +kernel
theorem dX2_init_31 : decode cX2_init 31 = .ok (.newarray .long, 2) := by decide +kernel
theorem dX2_init_33 : decode cX2_init 33 = .ok (.putfield 21, 3) := by decide +kernel
theorem dX2_init_36 : decode cX2_init 36 = .ok (.aload_n 0, 1) := by decide +kernel
theorem dX2_init_37 : decode cX2_init 37 = .ok (.bipush 8, 2) := by decide +kernel
theorem dX2_init_39 : decode cX2_init 39 = .ok (.newarray .long, 2) := by decide +kernel
theorem dX2_init_41 : decode cX2_init 41 = .ok (.putfield 24, 3) := by decide +kernel
theorem dX2_init_44 : decode cX2_init 44 = .ok (.aload_n 0, 1) := by decide +kernel
theorem dX2_init_45 : decode cX2_init 45 = .ok (.bipush 8, 2) := by decide +kernel
theorem dX2_init_47 : decode cX2_init 47 = .ok (.bipush 8, 2) := by decide +kernel
theorem dX2_init_49 : decode cX2_init 49 = .ok (.multianewarray 27 2, 4) := by decide +kernel
theorem dX2_init_53 : decode cX2_init 53 = .ok (.putfield 29, 3) := by decide +kernel
theorem dX2_init_56 : decode cX2_init 56 = .ok (.return_, 1) := by decide +kernel
theorem dX2_noGrains_0 : decode cX2_noGrains 0 = .ok (.aload_n 0, 1) := by decide +kernel
theorem dX2_noGrains_1 : decode cX2_noGrains 1 = .ok (.getfield 9, 3) := by decide +kernel
theorem dX2_noGrains_4 : decode cX2_noGrains 4 = .ok (.areturn, 1) := by decide +kernel
theorem dX2_fullest_0 : decode cX2_fullest 0 = .ok (.iconst 1, 1) := by decide +kernel
theorem dX2_fullest_1 : decode cX2_fullest 1 = .ok (.istore_n 2, 1) := by decide +kernel
theorem dX2_fullest_2 : decode cX2_fullest 2 = .ok (.iload_n 2, 1) := by decide +kernel
theorem dX2_fullest_3 : decode cX2_fullest 3 = .ok (.aload_n 1, 1) := by decide +kernel
theorem dX2_fullest_4 : decode cX2_fullest 4 = .ok (.getfield 32, 3) := by decide +kernel
theorem dX2_fullest_7 : decode cX2_fullest 7 = .ok (.if_icmp .ge 24, 3) := by decide +kernel
theorem dX2_fullest_10 : decode cX2_fullest 10 = .ok (.aload_n 0, 1) := by decide +kernel
theorem dX2_fullest_11 : decode cX2_fullest 11 = .ok (.getfield 15, 3) := by decide +kernel
theorem dX2_fullest_14 : decode cX2_fullest 14 = .ok (.iload_n 2, 1) := by decide +kernel
theorem dX2_fullest_15 : decode cX2_fullest 15 = .ok (.aload_n 1, 1) := by decide +kernel
theorem dX2_fullest_16 : decode cX2_fullest 16 = .ok (.getfield 38, 3) := by decide +kernel
theorem dX2_fullest_19 : decode cX2_fullest 19 = .ok (.iload_n 2, 1) := by decide +kernel
theorem dX2_fullest_20 : decode cX2_fullest 20 = .ok (.iaload, 1) := by decide +kernel
theorem dX2_fullest_21 : decode cX2_fullest 21 = .ok (.iconst 1, 1) := by decide +kernel
theorem dX2_fullest_22 : decode cX2_fullest 22 = .ok (.isub, 1) := by decide +kernel
theorem dX2_fullest_23 : decode cX2_fullest 23 = .ok (.i2l, 1) := by decide +kernel
theorem dX2_fullest_24 : decode cX2_fullest 24 = .ok (.lastore, 1) := by decide +kernel
theorem dX2_fullest_25 : decode cX2_fullest 25 = .ok (.iinc 2 1, 3) := by decide +kernel
theorem dX2_fullest_28 : decode cX2_fullest 28 = .ok (.goto (-26), 3) := by decide +kernel
theorem dX2_fullest_31 : decode cX2_fullest 31 = .ok (.aload_n 0, 1) := by decide +kernel
theorem dX2_fullest_32 : decode cX2_fullest 32 = .ok (.getfield 15, 3) := by decide +kernel
theorem dX2_fullest_35 : decode cX2_fullest 35 = .ok (.areturn, 1) := by decide +kernel
set_option maxRecDepth 20000 in
theorem ggX2_makeLift_X2_fullest : GoodIn wsX2_makeLift wsX2_fullest := goodIn_r _ [10, 1, 4, 11, 33, 34, 35, 36, 37, 38, 39, 40, 41, 42] (by decide +kernel) (by decide +kernel)
set_option maxRecDepth 20000 in
theorem gX2_makeLift_X2_fullest : GoodIn wsX2_makeLift (wsV RX2 42 RX2 yX2_fullest wsX2_fullest) := goodIn_app (goodIn_of _ (by decide +kernel)) ggX2_makeLift_X2_fullest
set_option maxRecDepth 20000 in
theorem ggX2_makeLift_X4_calm : GoodIn wsX2_makeLift wsX4_calm := goodIn_r _ [16, 17, 18, 19, 20, 21, 22, 23, 24, 25, 15, 26, 27, 28, 29, 30, 31, 32, 33, 34, 35, 36] (by decide +kernel) (by decide +kernel)
set_option maxRecDepth 20000 in
theorem gX2_makeLift_X4_calm : GoodIn wsX2_makeLift (wsV RX2 48 RX4 yX4_calm wsX4_calm) := goodIn_app (goodIn_of _ (by decide +kernel)) ggX2_makeLift_X4_calm
theorem dX2_makeLift_0 : decode cX2_makeLift 0 = .ok (.aload_n 0, 1) := by decide +kernel
theorem dX2_makeLift_1 : decode cX2_makeLift 1 = .ok (.aload_n 1, 1) := by decide +kernel
theorem dX2_makeLift_2 : decode cX2_makeLift 2 = .ok (.invokevirtual 42, 3) := by decide +kernel
theorem dX2_makeLift_5 : decode cX2_makeLift 5 = .ok (.pop, 1) := by decide +kernel
theorem dX2_makeLift_6 : decode cX2_makeLift 6 = .ok (.iconst 1, 1) := by decide +kernel
theorem dX2_makeLift_7 : decode cX2_makeLift 7 = .ok (.istore_n 2, 1) := by decide +kernel
theorem dX2_makeLift_8 : decode cX2_makeLift 8 = .ok (.iload_n 2, 1) := by decide +kernel
theorem dX2_makeLift_9 : decode cX2_makeLift 9 = .ok (.aload_n 1, 1) := by decide +kernel
theorem dX2_makeLift_10 : decode cX2_makeLift 10 = .ok (.getfield 32, 3) := by decide +kernel
theorem dX2_makeLift_13 : decode cX2_makeLift 13 = .ok (.if_icmp .ge 25, 3) := by decide +kernel
theorem dX2_makeLift_16 : decode cX2_makeLift 16 = .ok (.aload_n 0, 1) := by decide +kernel
theorem dX2_makeLift_17 : decode cX2_makeLift 17 = .ok (.getfield 18, 3) := by decide +kernel
theorem dX2_makeLift_20 : decode cX2_makeLift 20 = .ok (.iload_n 2, 1) := by decide +kernel
theorem dX2_makeLift_21 : decode cX2_makeLift 21 = .ok (.ldc2_w 46, 3) := by decide +kernel
theorem dX2_makeLift_24 : decode cX2_makeLift 24 = .ok (.aload_n 0, 1) := by decide +kernel
theorem dX2_makeLift_25 : decode cX2_makeLift 25 = .ok (.getfield 15, 3) := by decide +kernel
theorem dX2_makeLift_28 : decode cX2_makeLift 28 = .ok (.iload_n 2, 1) := by decide +kernel
theorem dX2_makeLift_29 : decode cX2_makeLift 29 = .ok (.laload, 1) := by decide +kernel
theorem dX2_makeLift_30 : decode cX2_makeLift 30 = .ok (.lmul, 1) := by decide +kernel
theorem dX2_makeLift_31 : decode cX2_makeLift 31 = .ok (.lastore, 1) := by decide +kernel
theorem dX2_makeLift_32 : decode cX2_makeLift 32 = .ok (.iinc 2 1, 3) := by decide +kernel
theorem dX2_makeLift_35 : decode cX2_makeLift 35 = .ok (.goto (-27), 3) := by decide +kernel
theorem dX2_makeLift_38 : decode cX2_makeLift 38 = .ok (.aload_n 1, 1) := by decide +kernel
theorem dX2_makeLift_39 : decode cX2_makeLift 39 = .ok (.aload_n 0, 1) := by decide +kernel
theorem dX2_makeLift_40 : decode cX2_makeLift 40 = .ok (.getfield 18, 3) := by decide +kernel
theorem dX2_makeLift_43 : decode cX2_makeLift 43 = .ok (.aload_n 0, 1) := by decide +kernel
theorem dX2_makeLift_44 : decode cX2_makeLift 44 = .ok (.getfield 24, 3) := by decide +kernel
theorem dX2_makeLift_47 : decode cX2_makeLift 47 = .ok (.invokevirtual 48, 3) := by decide +kernel
theorem dX2_makeLift_50 : decode cX2_makeLift 50 = .ok (.pop2, 1) := by decide +kernel
theorem dX2_makeLift_51 : decode cX2_makeLift 51 = .ok (.iconst 1, 1) := by decide +kernel
theorem dX2_makeLift_52 : decode cX2_makeLift 52 = .ok (.istore_n 2, 1) := by decide +kernel
theorem dX2_makeLift_53 : decode cX2_makeLift 53 = .ok (.iload_n 2, 1) := by decide +kernel
theorem dX2_makeLift_54 : decode cX2_makeLift 54 = .ok (.aload_n 1, 1) := by decide +kernel
theorem dX2_makeLift_55 : decode cX2_makeLift 55 = .ok (.getfield 32, 3) := by decide +kernel
theorem dX2_makeLift_58 : decode cX2_makeLift 58 = .ok (.if_icmp .ge 32, 3) := by decide +kernel
theorem dX2_makeLift_61 : decode cX2_makeLift 61 = .ok (.aload_n 0, 1) := by decide +kernel
theorem dX2_makeLift_62 : decode cX2_makeLift 62 = .ok (.getfield 18, 3) := by decide +kernel
theorem dX2_makeLift_65 : decode cX2_makeLift 65 = .ok (.iload_n 2, 1) := by decide +kernel
theorem dX2_makeLift_66 : decode cX2_makeLift 66 = .ok (.ldc2_w 46, 3) := by decide +kernel
theorem dX2_makeLift_69 : decode cX2_makeLift 69 = .ok (.aload_n 0, 1) := by decide +kernel
theorem dX2_makeLift_70 : decode cX2_makeLift 70 = .ok (.getfield 15, 3) := by decide +kernel
theorem dX2_makeLift_73 : decode cX2_makeLift 73 = .ok (.iload_n 2, 1) := by decide +kernel
theorem dX2_makeLift_74 : decode cX2_makeLift 74 = .ok (.laload, 1) := by decide +kernel
theorem dX2_makeLift_75 : decode cX2_makeLift 75 = .ok (.lmul, 1) := by decide +kernel
theorem dX2_makeLift_76 : decode cX2_makeLift 76 = .ok (.aload_n 0, 1) := by decide +kernel
theorem dX2_makeLift_77 : decode cX2_makeLift 77 = .ok (.getfield 18, 3) := by decide +kernel
theorem dX2_makeLift_80 : decode cX2_makeLift 80 = .ok (.iload_n 2, 1) := by decide +kernel
theorem dX2_makeLift_81 : decode cX2_makeLift 81 = .ok (.laload, 1) := by decide +kernel
theorem dX2_makeLift_82 : decode cX2_makeLift 82 = .ok (.lsub, 1) := by decide +kernel
theorem dX2_makeLift_83 : decode cX2_makeLift 83 = .ok (.lastore, 1) := by decide +kernel
theorem dX2_makeLift_84 : decode cX2_makeLift 84 = .ok (.iinc 2 1, 3) := by decide +kernel
theorem dX2_makeLift_87 : decode cX2_makeLift 87 = .ok (.goto (-34), 3) := by decide +kernel
theorem dX2_makeLift_90 : decode cX2_makeLift 90 = .ok (.return_, 1) := by decide +kernel
set_option maxRecDepth 20000 in
theorem ggX2_against_X4_calm : GoodIn wsX2_against wsX4_calm := goodIn_r _ [13, 14, 15, 16, 17, 18, 19, 20, 21, 22, 12, 23, 24, 25, 26, 27, 28, 29, 48, 49, 50, 51] (by decide +kernel) (by decide +kernel)
set_option maxRecDepth 20000 in
theorem gX2_against_X4_calm : GoodIn wsX2_against (wsV RX2 48 RX4 yX4_calm wsX4_calm) := goodIn_app (goodIn_of _ (by decide +kernel)) ggX2_against_X4_calm
set_option maxRecDepth 20000 in
theorem ggX2_against_X2_makeLift : GoodIn wsX2_against wsX2_makeLift := goodIn_r _ [34, 7, 8, 35, 36, 6, 37, 38, 39, 33, 40, 41, 9, 10, 11, 12, 13, 14, 15, 16, 17, 18, 19, 20, 21, 22, 23, 24, 25, 26, 27, 28, 29, 48, 49, 50, 51, 42, 43, 44, 45, 46, 47] (by decide +kernel) (by decide +kernel)
set_option maxRecDepth 20000 in
theorem gX2_against_X2_makeLift : GoodIn wsX2_against (wsV RX2 58 RX2 yX2_makeLift wsX2_makeLift) := goodIn_app (goodIn_of _ (by decide +kernel)) ggX2_against_X2_makeLift
theorem dX2_against_0 : decode cX2_against 0 = .ok (.aload_n 2, 1) := by decide +kernel
theorem dX2_against_1 : decode cX2_against 1 = .ok (.iconst 0, 1) := by decide +kernel
theorem dX2_against_2 : decode cX2_against 2 = .ok (.aload_n 0, 1) := by decide +kernel
theorem dX2_against_3 : decode cX2_against 3 = .ok (.getfield 21, 3) := by decide +kernel
theorem dX2_against_6 : decode cX2_against 6 = .ok (.iconst 0, 1) := by decide +kernel
theorem dX2_against_7 : decode cX2_against 7 = .ok (.bipush 8, 2) := by decide +kernel
theorem dX2_against_9 : decode cX2_against 9 = .ok (.invokestatic 52, 3) := by decide +kernel
theorem dX2_against_12 : decode cX2_against 12 = .ok (.aload_n 1, 1) := by decide +kernel
theorem dX2_against_13 : decode cX2_against 13 = .ok (.aload_n 0, 1) := by decide +kernel
theorem dX2_against_14 : decode cX2_against 14 = .ok (.getfield 21, 3) := by decide +kernel
theorem dX2_against_17 : decode cX2_against 17 = .ok (.aload_n 0, 1) := by decide +kernel
theorem dX2_against_18 : decode cX2_against 18 = .ok (.getfield 24, 3) := by decide +kernel
theorem dX2_against_21 : decode cX2_against 21 = .ok (.invokevirtual 48, 3) := by decide +kernel
theorem dX2_against_24 : decode cX2_against 24 = .ok (.pop2, 1) := by decide +kernel
theorem dX2_against_25 : decode cX2_against 25 = .ok (.aload_n 0, 1) := by decide +kernel
theorem dX2_against_26 : decode cX2_against 26 = .ok (.aload_n 1, 1) := by decide +kernel
theorem dX2_against_27 : decode cX2_against 27 = .ok (.invokevirtual 58, 3) := by decide +kernel
theorem dX2_against_30 : decode cX2_against 30 = .ok (.iconst 1, 1) := by decide +kernel
theorem dX2_against_31 : decode cX2_against 31 = .ok (.istore_n 3, 1) := by decide +kernel
theorem dX2_against_32 : decode cX2_against 32 = .ok (.iload_n 3, 1) := by decide +kernel
theorem dX2_against_33 : decode cX2_against 33 = .ok (.aload_n 1, 1) := by decide +kernel
theorem dX2_against_34 : decode cX2_against 34 = .ok (.getfield 32, 3) := by decide +kernel
theorem dX2_against_37 : decode cX2_against 37 = .ok (.if_icmp .ge 28, 3) := by decide +kernel
theorem dX2_against_40 : decode cX2_against 40 = .ok (.aload_n 0, 1) := by decide +kernel
theorem dX2_against_41 : decode cX2_against 41 = .ok (.getfield 21, 3) := by decide +kernel
theorem dX2_against_44 : decode cX2_against 44 = .ok (.iload_n 3, 1) := by decide +kernel
theorem dX2_against_45 : decode cX2_against 45 = .ok (.aload_n 0, 1) := by decide +kernel
theorem dX2_against_46 : decode cX2_against 46 = .ok (.getfield 18, 3) := by decide +kernel
theorem dX2_against_49 : decode cX2_against 49 = .ok (.iload_n 3, 1) := by decide +kernel
theorem dX2_against_50 : decode cX2_against 50 = .ok (.laload, 1) := by decide +kernel
theorem dX2_against_51 : decode cX2_against 51 = .ok (.aload_n 0, 1) := by decide +kernel
theorem dX2_against_52 : decode cX2_against 52 = .ok (.getfield 21, 3) := by decide +kernel
theorem dX2_against_55 : decode cX2_against 55 = .ok (.iload_n 3, 1) := by decide +kernel
theorem dX2_against_56 : decode cX2_against 56 = .ok (.laload, 1) := by decide +kernel
theorem dX2_against_57 : decode cX2_against 57 = .ok (.lsub, 1) := by decide +kernel
theorem dX2_against_58 : decode cX2_against 58 = .ok (.lastore, 1) := by decide +kernel
theorem dX2_against_59 : decode cX2_against 59 = .ok (.iinc 3 1, 3) := by decide +kernel
theorem dX2_against_62 : decode cX2_against 62 = .ok (.goto (-30), 3) := by decide +kernel
theorem dX2_against_65 : decode cX2_against 65 = .ok (.aload_n 0, 1) := by decide +kernel
theorem dX2_against_66 : decode cX2_against 66 = .ok (.getfield 21, 3) := by decide +kernel
theorem dX2_against_69 : decode cX2_against 69 = .ok (.areturn, 1) := by decide +kernel
set_option maxRecDepth 20000 in
theorem ggX2_comingAgain_X2_makeLift : GoodIn wsX2_comingAgain wsX2_makeLift := goodIn_r _ [8, 1, 2, 9, 10, 3, 11, 12, 13, 7, 14, 15, 16, 17, 18, 19, 20, 21, 22, 23, 24, 25, 26, 27, 28, 29, 30, 31, 32, 33, 34, 35, 36, 37, 38, 39, 40, 41, 42, 43, 44, 45, 46] (by decide +kernel) (by decide +kernel)
set_option maxRecDepth 20000 in
theorem gX2_comingAgain_X2_makeLift : GoodIn wsX2_comingAgain (wsV RX2 58 RX2 yX2_makeLift wsX2_makeLift) := goodIn_app (goodIn_of _ (by decide +kernel)) ggX2_comingAgain_X2_makeLift
set_option maxRecDepth 20000 in
theorem ggX2_comingAgain_X4_calm : GoodIn wsX2_comingAgain wsX4_calm := goodIn_r _ [20, 21, 22, 23, 24, 25, 26, 27, 28, 29, 19, 30, 31, 32, 33, 34, 35, 36, 37, 38, 39, 40] (by decide +kernel) (by decide +kernel)
set_option maxRecDepth 20000 in
theorem gX2_comingAgain_X4_calm : GoodIn wsX2_comingAgain (wsV RX2 48 RX4 yX4_calm wsX4_calm) := goodIn_app (goodIn_of _ (by decide +kernel)) ggX2_comingAgain_X4_calm
theorem dX2_comingAgain_0 : decode cX2_comingAgain 0 = .ok (.aload_n 0, 1) := by decide +kernel
theorem dX2_comingAgain_1 : decode cX2_comingAgain 1 = .ok (.aload_n 1, 1) := by decide +kernel
theorem dX2_comingAgain_2 : decode cX2_comingAgain 2 = .ok (.invokevirtual 58, 3) := by decide +kernel
theorem dX2_comingAgain_5 : decode cX2_comingAgain 5 = .ok (.iconst 1, 1) := by decide +kernel
theorem dX2_comingAgain_6 : decode cX2_comingAgain 6 = .ok (.istore_n 3, 1) := by decide +kernel
theorem dX2_comingAgain_7 : decode cX2_comingAgain 7 = .ok (.iload_n 3, 1) := by decide +kernel
theorem dX2_comingAgain_8 : decode cX2_comingAgain 8 = .ok (.aload_n 1, 1) := by decide +kernel
theorem dX2_comingAgain_9 : decode cX2_comingAgain 9 = .ok (.getfield 32, 3) := by decide +kernel
theorem dX2_comingAgain_12 : decode cX2_comingAgain 12 = .ok (.if_icmp .ge 21, 3) := by decide +kernel
theorem dX2_comingAgain_15 : decode cX2_comingAgain 15 = .ok (.aload_n 0, 1) := by decide +kernel
theorem dX2_comingAgain_16 : decode cX2_comingAgain 16 = .ok (.getfield 18, 3) := by decide +kernel
theorem dX2_comingAgain_19 : decode cX2_comingAgain 19 = .ok (.iload_n 3, 1) := by decide +kernel
theorem dX2_comingAgain_20 : decode cX2_comingAgain 20 = .ok (.dup2, 1) := by decide +kernel
theorem dX2_comingAgain_21 : decode cX2_comingAgain 21 = .ok (.laload, 1) := by decide +kernel
theorem dX2_comingAgain_22 : decode cX2_comingAgain 22 = .ok (.aload_n 2, 1) := by decide +kernel
theorem dX2_comingAgain_23 : decode cX2_comingAgain 23 = .ok (.iload_n 3, 1) := by decide +kernel
theorem dX2_comingAgain_24 : decode cX2_comingAgain 24 = .ok (.laload, 1) := by decide +kernel
theorem dX2_comingAgain_25 : decode cX2_comingAgain 25 = .ok (.ladd, 1) := by decide +kernel
theorem dX2_comingAgain_26 : decode cX2_comingAgain 26 = .ok (.lastore, 1) := by decide +kernel
theorem dX2_comingAgain_27 : decode cX2_comingAgain 27 = .ok (.iinc 3 1, 3) := by decide +kernel
theorem dX2_comingAgain_30 : decode cX2_comingAgain 30 = .ok (.goto (-23), 3) := by decide +kernel
theorem dX2_comingAgain_33 : decode cX2_comingAgain 33 = .ok (.aload_n 1, 1) := by decide +kernel
theorem dX2_comingAgain_34 : decode cX2_comingAgain 34 = .ok (.aload_n 0, 1) := by decide +kernel
theorem dX2_comingAgain_35 : decode cX2_comingAgain 35 = .ok (.getfield 18, 3) := by decide +kernel
theorem dX2_comingAgain_38 : decode cX2_comingAgain 38 = .ok (.aload_n 0, 1) := by decide +kernel
theorem dX2_comingAgain_39 : decode cX2_comingAgain 39 = .ok (.getfield 24, 3) := by decide +kernel
theorem dX2_comingAgain_42 : decode cX2_comingAgain 42 = .ok (.invokevirtual 48, 3) := by decide +kernel
theorem dX2_comingAgain_45 : decode cX2_comingAgain 45 = .ok (.pop2, 1) := by decide +kernel
theorem dX2_comingAgain_46 : decode cX2_comingAgain 46 = .ok (.aload_n 0, 1) := by decide +kernel
theorem dX2_comingAgain_47 : decode cX2_comingAgain 47 = .ok (.getfield 18, 3) := by decide +kernel
theorem dX2_comingAgain_50 : decode cX2_comingAgain 50 = .ok (.areturn, 1) := by decide +kernel
set_option maxRecDepth 20000 in
theorem ggX2_howMany_X4_isJoined : GoodIn wsX2_howMany wsX4_isJoined := goodIn_r _ [6, 7, 8, 9, 10, 5, 11, 12, 36, 37, 38, 39] (by decide +kernel) (by decide +kernel)
set_option maxRecDepth 20000 in
theorem gX2_howMany_X4_isJoined : GoodIn wsX2_howMany (wsV RX2 62 RX4 yX4_isJoined wsX4_isJoined) := goodIn_app (goodIn_of _ (by decide +kernel)) ggX2_howMany_X4_isJoined
set_option maxRecDepth 20000 in
theorem ggX2_howMany_X2_solve : GoodIn wsX2_howMany wsX2_solve := goodIn_r _ [17, 18, 19, 20, 21, 22, 16, 23, 24, 25, 26, 27, 28, 29, 36, 37, 38, 39, 30, 31, 32, 33, 34, 35] (by decide +kernel) (by decide +kernel)
set_option maxRecDepth 20000 in
theorem gX2_howMany_X2_solve : GoodIn wsX2_howMany (wsV RX2 66 RX2 yX2_solve wsX2_solve) := goodIn_app (goodIn_of _ (by decide +kernel)) ggX2_howMany_X2_solve
theorem dX2_howMany_0 : decode cX2_howMany 0 = .ok (.aload_n 1, 1) := by decide +kernel
theorem dX2_howMany_1 : decode cX2_howMany 1 = .ok (.invokevirtual 62, 3) := by decide +kernel
theorem dX2_howMany_4 : decode cX2_howMany 4 = .ok (.ifCond .eq 15, 3) := by decide +kernel
theorem dX2_howMany_7 : decode cX2_howMany 7 = .ok (.aload_n 0, 1) := by decide +kernel
theorem dX2_howMany_8 : decode cX2_howMany 8 = .ok (.aload_n 1, 1) := by decide +kernel
theorem dX2_howMany_9 : decode cX2_howMany 9 = .ok (.aload_n 0, 1) := by decide +kernel
theorem dX2_howMany_10 : decode cX2_howMany 10 = .ok (.getfield 9, 3) := by decide +kernel
theorem dX2_howMany_13 : decode cX2_howMany 13 = .ok (.invokevirtual 66, 3) := by decide +kernel
theorem dX2_howMany_16 : decode cX2_howMany 16 = .ok (.goto 4, 3) := by decide +kernel
theorem dX2_howMany_19 : decode cX2_howMany 19 = .ok (.lconst 0, 1) := by decide +kernel
theorem dX2_howMany_20 : decode cX2_howMany 20 = .ok (.lreturn, 1) := by decide +kernel
set_option maxRecDepth 20000 in
theorem ggX2_timesToNothing_X4_calm : GoodIn wsX2_timesToNothing wsX4_calm := goodIn_r _ [14, 15, 16, 17, 18, 19, 20, 21, 22, 23, 13, 24, 25, 26, 27, 28, 29, 30, 59, 60, 61, 62] (by decide +kernel) (by decide +kernel)
set_option maxRecDepth 20000 in
theorem gX2_timesToNothing_X4_calm : GoodIn wsX2_timesToNothing (wsV RX2 48 RX4 yX4_calm wsX4_calm) := goodIn_app (goodIn_of _ (by decide +kernel)) ggX2_timesToNothing_X4_calm
set_option maxRecDepth 20000 in
theorem ggX2_timesToNothing_X2_solve : GoodIn wsX2_timesToNothing wsX2_solve := goodIn_r _ [35, 8, 9, 36, 37, 38, 34, 39, 40, 41, 42, 43, 44, 45, 59, 60, 61, 62, 53, 54, 55, 56, 57, 58] (by decide +kernel) (by decide +kernel)
set_option maxRecDepth 20000 in
theorem gX2_timesToNothing_X2_solve : GoodIn wsX2_timesToNothing (wsV RX2 66 RX2 yX2_solve wsX2_solve) := goodIn_app (goodIn_of _ (by decide +kernel)) ggX2_timesToNothing_X2_solve
set_option maxRecDepth 20000 in
theorem ggX2_timesToNothing_X5_commonDivisor : GoodIn wsX2_timesToNothing wsX5_commonDivisor := goodIn_r _ [48, 49, 50, 51, 52] (by decide +kernel) (by decide +kernel)
set_option maxRecDepth 20000 in
theorem gX2_timesToNothing_X5_commonDivisor_n70 : GoodIn wsX2_timesToNothing (wsX5_commonDivisor) := ggX2_timesToNothing_X5_commonDivisor
theorem dX2_timesToNothing_0 : decode cX2_timesToNothing 0 = .ok (.aload_n 2, 1) := by decide +kernel
theorem dX2_timesToNothing_1 : decode cX2_timesToNothing 1 = .ok (.iconst 0, 1) := by decide +kernel
theorem dX2_timesToNothing_2 : decode cX2_timesToNothing 2 = .ok (.aload_n 0, 1) := by decide +kernel
theorem dX2_timesToNothing_3 : decode cX2_timesToNothing 3 = .ok (.getfield 21, 3) := by decide +kernel
theorem dX2_timesToNothing_6 : decode cX2_timesToNothing 6 = .ok (.iconst 0, 1) := by decide +kernel
theorem dX2_timesToNothing_7 : decode cX2_timesToNothing 7 = .ok (.bipush 8, 2) := by decide +kernel
theorem dX2_timesToNothing_9 : decode cX2_timesToNothing 9 = .ok (.invokestatic 52, 3) := by decide +kernel
theorem dX2_timesToNothing_12 : decode cX2_timesToNothing 12 = .ok (.aload_n 1, 1) := by decide +kernel
theorem dX2_timesToNothing_13 : decode cX2_timesToNothing 13 = .ok (.aload_n 0, 1) := by decide +kernel
theorem dX2_timesToNothing_14 : decode cX2_timesToNothing 14 = .ok (.getfield 21, 3) := by decide +kernel
theorem dX2_timesToNothing_17 : decode cX2_timesToNothing 17 = .ok (.aload_n 0, 1) := by decide +kernel
theorem dX2_timesToNothing_18 : decode cX2_timesToNothing 18 = .ok (.getfield 24, 3) := by decide +kernel
theorem dX2_timesToNothing_21 : decode cX2_timesToNothing 21 = .ok (.invokevirtual 48, 3) := by decide +kernel
theorem dX2_timesToNothing_24 : decode cX2_timesToNothing 24 = .ok (.pop2, 1) := by decide +kernel
theorem dX2_timesToNothing_25 : decode cX2_timesToNothing 25 = .ok (.aload_n 3, 1) := by decide +kernel
theorem dX2_timesToNothing_26 : decode cX2_timesToNothing 26 = .ok (.iconst 0, 1) := by decide +kernel
theorem dX2_timesToNothing_27 : decode cX2_timesToNothing 27 = .ok (.aload_n 0, 1) := by decide +kernel
theorem dX2_timesToNothing_28 : decode cX2_timesToNothing 28 = .ok (.getfield 18, 3) := by decide +kernel
theorem dX2_timesToNothing_31 : decode cX2_timesToNothing 31 = .ok (.iconst 0, 1) := by decide +kernel
theorem dX2_timesToNothing_32 : decode cX2_timesToNothing 32 = .ok (.bipush 8, 2) := by decide +kernel
theorem dX2_timesToNothing_34 : decode cX2_timesToNothing 34 = .ok (.invokestatic 52, 3) := by decide +kernel
theorem dX2_timesToNothing_37 : decode cX2_timesToNothing 37 = .ok (.aload_n 1, 1) := by decide +kernel
theorem dX2_timesToNothing_38 : decode cX2_timesToNothing 38 = .ok (.aload_n 0, 1) := by decide +kernel
theorem dX2_timesToNothing_39 : decode cX2_timesToNothing 39 = .ok (.getfield 18, 3) := by decide +kernel
theorem dX2_timesToNothing_42 : decode cX2_timesToNothing 42 = .ok (.aload_n 0, 1) := by decide +kernel
theorem dX2_timesToNothing_43 : decode cX2_timesToNothing 43 = .ok (.getfield 24, 3) := by decide +kernel
theorem dX2_timesToNothing_46 : decode cX2_timesToNothing 46 = .ok (.invokevirtual 48, 3) := by decide +kernel
theorem dX2_timesToNothing_49 : decode cX2_timesToNothing 49 = .ok (.pop2, 1) := by decide +kernel
theorem dX2_timesToNothing_50 : decode cX2_timesToNothing 50 = .ok (.iconst 1, 1) := by decide +kernel
theorem dX2_timesToNothing_51 : decode cX2_timesToNothing 51 = .ok (.istore 4, 2) := by decide +kernel
theorem dX2_timesToNothing_53 : decode cX2_timesToNothing 53 = .ok (.iload 4, 2) := by decide +kernel
theorem dX2_timesToNothing_55 : decode cX2_timesToNothing 55 = .ok (.aload_n 1, 1) := by decide +kernel
theorem dX2_timesToNothing_56 : decode cX2_timesToNothing 56 = .ok (.getfield 32, 3) := by decide +kernel
theorem dX2_timesToNothing_59 : decode cX2_timesToNothing 59 = .ok (.if_icmp .ge 26, 3) := by decide +kernel
theorem dX2_timesToNothing_62 : decode cX2_timesToNothing 62 = .ok (.aload_n 0, 1) := by decide +kernel
theorem dX2_timesToNothing_63 : decode cX2_timesToNothing 63 = .ok (.getfield 21, 3) := by decide +kernel
theorem dX2_timesToNothing_66 : decode cX2_timesToNothing 66 = .ok (.iload 4, 2) := by decide +kernel
theorem dX2_timesToNothing_68 : decode cX2_timesToNothing 68 = .ok (.dup2, 1) := by decide +kernel
theorem dX2_timesToNothing_69 : decode cX2_timesToNothing 69 = .ok (.laload, 1) := by decide +kernel
theorem dX2_timesToNothing_70 : decode cX2_timesToNothing 70 = .ok (.aload_n 0, 1) := by decide +kernel
theorem dX2_timesToNothing_71 : decode cX2_timesToNothing 71 = .ok (.getfield 18, 3) := by decide +kernel
theorem dX2_timesToNothing_74 : decode cX2_timesToNothing 74 = .ok (.iload 4, 2) := by decide +kernel
theorem dX2_timesToNothing_76 : decode cX2_timesToNothing 76 = .ok (.laload, 1) := by decide +kernel
theorem dX2_timesToNothing_77 : decode cX2_timesToNothing 77 = .ok (.lsub, 1) := by decide +kernel
theorem dX2_timesToNothing_78 : decode cX2_timesToNothing 78 = .ok (.lastore, 1) := by decide +kernel
theorem dX2_timesToNothing_79 : decode cX2_timesToNothing 79 = .ok (.iinc 4 1, 3) := by decide +kernel
theorem dX2_timesToNothing_82 : decode cX2_timesToNothing 82 = .ok (.goto (-29), 3) := by decide +kernel
theorem dX2_timesToNothing_85 : decode cX2_timesToNothing 85 = .ok (.aload_n 0, 1) := by decide +kernel
theorem dX2_timesToNothing_86 : decode cX2_timesToNothing 86 = .ok (.aload_n 1, 1) := by decide +kernel
theorem dX2_timesToNothing_87 : decode cX2_timesToNothing 87 = .ok (.aload_n 0, 1) := by decide +kernel
theorem dX2_timesToNothing_88 : decode cX2_timesToNothing 88 = .ok (.getfield 21, 3) := by decide +kernel
theorem dX2_timesToNothing_91 : decode cX2_timesToNothing 91 = .ok (.invokevirtual 66, 3) := by decide +kernel
theorem dX2_timesToNothing_94 : decode cX2_timesToNothing 94 = .ok (.lstore 4, 2) := by decide +kernel
theorem dX2_timesToNothing_96 : decode cX2_timesToNothing 96 = .ok (.lload 4, 2) := by decide +kernel
theorem dX2_timesToNothing_98 : decode cX2_timesToNothing 98 = .ok (.lstore 6, 2) := by decide +kernel
theorem dX2_timesToNothing_100 : decode cX2_timesToNothing 100 = .ok (.iconst 1, 1) := by decide +kernel
theorem dX2_timesToNothing_101 : decode cX2_timesToNothing 101 = .ok (.istore 8, 2) := by decide +kernel
theorem dX2_timesToNothing_103 : decode cX2_timesToNothing 103 = .ok (.iload 8, 2) := by decide +kernel
theorem dX2_timesToNothing_105 : decode cX2_timesToNothing 105 = .ok (.aload_n 1, 1) := by decide +kernel
theorem dX2_timesToNothing_106 : decode cX2_timesToNothing 106 = .ok (.getfield 32, 3) := by decide +kernel
theorem dX2_timesToNothing_109 : decode cX2_timesToNothing 109 = .ok (.if_icmp .ge 25, 3) := by decide +kernel
theorem dX2_timesToNothing_112 : decode cX2_timesToNothing 112 = .ok (.lload 6, 2) := by decide +kernel
theorem dX2_timesToNothing_114 : decode cX2_timesToNothing 114 = .ok (.aload_n 0, 1) := by decide +kernel
theorem dX2_timesToNothing_115 : decode cX2_timesToNothing 115 = .ok (.getfield 29, 3) := by decide +kernel
theorem dX2_timesToNothing_118 : decode cX2_timesToNothing 118 = .ok (.iload 8, 2) := by decide +kernel
theorem dX2_timesToNothing_120 : decode cX2_timesToNothing 120 = .ok (.aaload, 1) := by decide +kernel
theorem dX2_timesToNothing_121 : decode cX2_timesToNothing 121 = .ok (.iconst 0, 1) := by decide +kernel
theorem dX2_timesToNothing_122 : decode cX2_timesToNothing 122 = .ok (.laload, 1) := by decide +kernel
theorem dX2_timesToNothing_123 : decode cX2_timesToNothing 123 = .ok (.invokestatic 70, 3) := by decide +kernel
theorem dX2_timesToNothing_126 : decode cX2_timesToNothing 126 = .ok (.lstore 6, 2) := by decide +kernel
theorem dX2_timesToNothing_128 : decode cX2_timesToNothing 128 = .ok (.iinc 8 1, 3) := by decide +kernel
theorem dX2_timesToNothing_131 : decode cX2_timesToNothing 131 = .ok (.goto (-28), 3) := by decide +kernel
theorem dX2_timesToNothing_134 : decode cX2_timesToNothing 134 = .ok (.lload 6, 2) := by decide +kernel
theorem dX2_timesToNothing_136 : decode cX2_timesToNothing 136 = .ok (.lconst 0, 1) := by decide +kernel
theorem dX2_timesToNothing_137 : decode cX2_timesToNothing 137 = .ok (.lcmp, 1) := by decide +kernel
theorem dX2_timesToNothing_138 : decode cX2_timesToNothing 138 = .ok (.ifCond .gt 7, 3) := by decide +kernel
theorem dX2_timesToNothing_141 : decode cX2_timesToNothing 141 = .ok (.lconst 1, 1) := by decide +kernel
theorem dX2_timesToNothing_142 : decode cX2_timesToNothing 142 = .ok (.goto 8, 3) := by decide +kernel
theorem dX2_timesToNothing_145 : decode cX2_timesToNothing 145 = .ok (.lload 4, 2) := by decide +kernel
theorem dX2_timesToNothing_147 : decode cX2_timesToNothing 147 = .ok (.lload 6, 2) := by decide +kernel
theorem dX2_timesToNothing_149 : decode cX2_timesToNothing 149 = .ok (.ldiv, 1) := by decide +kernel
theorem dX2_timesToNothing_150 : decode cX2_timesToNothing 150 = .ok (.lreturn, 1) := by decide +kernel
set_option maxRecDepth 20000 in
theorem ggX2_solve_X2_fillTable : GoodIn wsX2_solve wsX2_fillTable := goodIn_r _ [7, 1, 2, 8, 9, 14, 15, 16, 17, 18, 19, 20, 21, 22, 23] (by decide +kernel) (by decide +kernel)
set_option maxRecDepth 20000 in
theorem gX2_solve_X2_fillTable : GoodIn wsX2_solve (wsV RX2 74 RX2 yX2_fillTable wsX2_fillTable) := goodIn_app (goodIn_of _ (by decide +kernel)) ggX2_solve_X2_fillTable
set_option maxRecDepth 20000 in
theorem ggX2_solve_X2_clearInRow : GoodIn wsX2_solve wsX2_clearInRow := goodIn_r _ [13, 2, 1, 18, 19, 20, 21, 22, 23, 14, 15, 16, 17] (by decide +kernel) (by decide +kernel)
set_option maxRecDepth 20000 in
theorem gX2_solve_X2_clearInRow : GoodIn wsX2_solve (wsV RX2 78 RX2 yX2_clearInRow wsX2_clearInRow) := goodIn_app (goodIn_of _ (by decide +kernel)) ggX2_solve_X2_clearInRow
theorem dX2_solve_0 : decode cX2_solve 0 = .ok (.aload_n 0, 1) := by decide +kernel
theorem dX2_solve_1 : decode cX2_solve 1 = .ok (.aload_n 1, 1) := by decide +kernel
theorem dX2_solve_2 : decode cX2_solve 2 = .ok (.aload_n 2, 1) := by decide +kernel
theorem dX2_solve_3 : decode cX2_solve 3 = .ok (.invokevirtual 74, 3) := by decide +kernel
theorem dX2_solve_6 : decode cX2_solve 6 = .ok (.lconst 1, 1) := by decide +kernel
theorem dX2_solve_7 : decode cX2_solve 7 = .ok (.lstore_n 3, 1) := by decide +kernel
theorem dX2_solve_8 : decode cX2_solve 8 = .ok (.iconst 1, 1) := by decide +kernel
theorem dX2_solve_9 : decode cX2_solve 9 = .ok (.istore 5, 2) := by decide +kernel
theorem dX2_solve_11 : decode cX2_solve 11 = .ok (.iload 5, 2) := by decide +kernel
theorem dX2_solve_13 : decode cX2_solve 13 = .ok (.aload_n 1, 1) := by decide +kernel
theorem dX2_solve_14 : decode cX2_solve 14 = .ok (.getfield 32, 3) := by decide +kernel
theorem dX2_solve_17 : decode cX2_solve 17 = .ok (.if_icmp .ge 61, 3) := by decide +kernel
theorem dX2_solve_20 : decode cX2_solve 20 = .ok (.iconst 1, 1) := by decide +kernel
theorem dX2_solve_21 : decode cX2_solve 21 = .ok (.istore 6, 2) := by decide +kernel
theorem dX2_solve_23 : decode cX2_solve 23 = .ok (.iload 6, 2) := by decide +kernel
theorem dX2_solve_25 : decode cX2_solve 25 = .ok (.aload_n 1, 1) := by decide +kernel
theorem dX2_solve_26 : decode cX2_solve 26 = .ok (.getfield 32, 3) := by decide +kernel
theorem dX2_solve_29 : decode cX2_solve 29 = .ok (.if_icmp .ge 32, 3) := by decide +kernel
theorem dX2_solve_32 : decode cX2_solve 32 = .ok (.iload 6, 2) := by decide +kernel
theorem dX2_solve_34 : decode cX2_solve 34 = .ok (.iload 5, 2) := by decide +kernel
theorem dX2_solve_36 : decode cX2_solve 36 = .ok (.if_icmp .eq 19, 3) := by decide +kernel
theorem dX2_solve_39 : decode cX2_solve 39 = .ok (.lload_n 3, 1) := by decide +kernel
theorem dX2_solve_40 : decode cX2_solve 40 = .ok (.lconst 0, 1) := by decide +kernel
theorem dX2_solve_41 : decode cX2_solve 41 = .ok (.lcmp, 1) := by decide +kernel
theorem dX2_solve_42 : decode cX2_solve 42 = .ok (.ifCond .eq 13, 3) := by decide +kernel
theorem dX2_solve_45 : decode cX2_solve 45 = .ok (.aload_n 0, 1) := by decide +kernel
theorem dX2_solve_46 : decode cX2_solve 46 = .ok (.aload_n 1, 1) := by decide +kernel
theorem dX2_solve_47 : decode cX2_solve 47 = .ok (.iload 6, 2) := by decide +kernel
theorem dX2_solve_49 : decode cX2_solve 49 = .ok (.iload 5, 2) := by decide +kernel
theorem dX2_solve_51 : decode cX2_solve 51 = .ok (.lload_n 3, 1) := by decide +kernel
theorem dX2_solve_52 : decode cX2_solve 52 = .ok (.invokevirtual 78, 3) := by decide +kernel
theorem dX2_solve_55 : decode cX2_solve 55 = .ok (.iinc 6 1, 3) := by decide +kernel
theorem dX2_solve_58 : decode cX2_solve 58 = .ok (.goto (-35), 3) := by decide +kernel
theorem dX2_solve_61 : decode cX2_solve 61 = .ok (.aload_n 0, 1) := by decide +kernel
theorem dX2_solve_62 : decode cX2_solve 62 = .ok (.getfield 29, 3) := by decide +kernel
theorem dX2_solve_65 : decode cX2_solve 65 = .ok (.iload 5, 2) := by decide +kernel
theorem dX2_solve_67 : decode cX2_solve 67 = .ok (.aaload, 1) := by decide +kernel
theorem dX2_solve_68 : decode cX2_solve 68 = .ok (.iload 5, 2) := by decide +kernel
theorem dX2_solve_70 : decode cX2_solve 70 = .ok (.laload, 1) := by decide +kernel
theorem dX2_solve_71 : decode cX2_solve 71 = .ok (.lstore_n 3, 1) := by decide +kernel
theorem dX2_solve_72 : decode cX2_solve 72 = .ok (.iinc 5 1, 3) := by decide +kernel
theorem dX2_solve_75 : decode cX2_solve 75 = .ok (.goto (-64), 3) := by decide +kernel
theorem dX2_solve_78 : decode cX2_solve 78 = .ok (.lload_n 3, 1) := by decide +kernel
theorem dX2_solve_79 : decode cX2_solve 79 = .ok (.lreturn, 1) := by decide +kernel
theorem dX2_fillTable_0 : decode cX2_fillTable 0 = .ok (.iconst 1, 1) := by decide +kernel
theorem dX2_fillTable_1 : decode cX2_fillTable 1 = .ok (.istore_n 3, 1) := by decide +kernel
theorem dX2_fillTable_2 : decode cX2_fillTable 2 = .ok (.iload_n 3, 1) := by decide +kernel
theorem dX2_fillTable_3 : decode cX2_fillTable 3 = .ok (.aload_n 1, 1) := by decide +kernel
theorem dX2_fillTable_4 : decode cX2_fillTable 4 = .ok (.getfield 32, 3) := by decide +kernel
theorem dX2_fillTable_7 : decode cX2_fillTable 7 = .ok (.if_icmp .ge 74, 3) := by decide +kernel
theorem dX2_fillTable_10 : decode cX2_fillTable 10 = .ok (.aload_n 0, 1) := by decide +kernel
theorem dX2_fillTable_11 : decode cX2_fillTable 11 = .ok (.getfield 29, 3) := by decide +kernel
theorem dX2_fillTable_14 : decode cX2_fillTable 14 = .ok (.iload_n 3, 1) := by decide +kernel
theorem dX2_fillTable_15 : decode cX2_fillTable 15 = .ok (.aaload, 1) := by decide +kernel
theorem dX2_fillTable_16 : decode cX2_fillTable 16 = .ok (.iconst 0, 1) := by decide +kernel
theorem dX2_fillTable_17 : decode cX2_fillTable 17 = .ok (.aload_n 2, 1) := by decide +kernel
theorem dX2_fillTable_18 : decode cX2_fillTable 18 = .ok (.iload_n 3, 1) := by decide +kernel
theorem dX2_fillTable_19 : decode cX2_fillTable 19 = .ok (.laload, 1) := by decide +kernel
theorem dX2_fillTable_20 : decode cX2_fillTable 20 = .ok (.lastore, 1) := by decide +kernel
theorem dX2_fillTable_21 : decode cX2_fillTable 21 = .ok (.iconst 1, 1) := by decide +kernel
theorem dX2_fillTable_22 : decode cX2_fillTable 22 = .ok (.istore 4, 2) := by decide +kernel
theorem dX2_fillTable_24 : decode cX2_fillTable 24 = .ok (.iload 4, 2) := by decide +kernel
theorem dX2_fillTable_26 : decode cX2_fillTable 26 = .ok (.aload_n 1, 1) := by decide +kernel
theorem dX2_fillTable_27 : decode cX2_fillTable 27 = .ok (.getfield 32, 3) := by decide +kernel
theorem dX2_fillTable_30 : decode cX2_fillTable 30 = .ok (.if_icmp .ge 45, 3) := by decide +kernel
theorem dX2_fillTable_33 : decode cX2_fillTable 33 = .ok (.aload_n 0, 1) := by decide +kernel
theorem dX2_fillTable_34 : decode cX2_fillTable 34 = .ok (.getfield 29, 3) := by decide +kernel
theorem dX2_fillTable_37 : decode cX2_fillTable 37 = .ok (.iload_n 3, 1) := by decide +kernel
theorem dX2_fillTable_38 : decode cX2_fillTable 38 = .ok (.aaload, 1) := by decide +kernel
theorem dX2_fillTable_39 : decode cX2_fillTable 39 = .ok (.iload 4, 2) := by decide +kernel
theorem dX2_fillTable_41 : decode cX2_fillTable 41 = .ok (.iload_n 3, 1) := by decide +kernel
theorem dX2_fillTable_42 : decode cX2_fillTable 42 = .ok (.iload 4, 2) := by decide +kernel
theorem dX2_fillTable_44 : decode cX2_fillTable 44 = .ok (.if_icmp .ne 13, 3) := by decide +kernel
theorem dX2_fillTable_47 : decode cX2_fillTable 47 = .ok (.aload_n 1, 1) := by decide +kernel
theorem dX2_fillTable_48 : decode cX2_fillTable 48 = .ok (.getfield 38, 3) := by decide +kernel
theorem dX2_fillTable_51 : decode cX2_fillTable 51 = .ok (.iload_n 3, 1) := by decide +kernel
theorem dX2_fillTable_52 : decode cX2_fillTable 52 = .ok (.iaload, 1) := by decide +kernel
theorem dX2_fillTable_53 : decode cX2_fillTable 53 = .ok (.i2l, 1) := by decide +kernel
theorem dX2_fillTable_54 : decode cX2_fillTable 54 = .ok (.goto 14, 3) := by decide +kernel
theorem dX2_fillTable_57 : decode cX2_fillTable 57 = .ok (.aload_n 1, 1) := by decide +kernel
theorem dX2_fillTable_58 : decode cX2_fillTable 58 = .ok (.getfield 82, 3) := by decide +kernel
theorem dX2_fillTable_61 : decode cX2_fillTable 61 = .ok (.iload_n 3, 1) := by decide +kernel
theorem dX2_fillTable_62 : decode cX2_fillTable 62 = .ok (.aaload, 1) := by decide +kernel
theorem dX2_fillTable_63 : decode cX2_fillTable 63 = .ok (.iload 4, 2) := by decide +kernel
theorem dX2_fillTable_65 : decode cX2_fillTable 65 = .ok (.iaload, 1) := by decide +kernel
theorem dX2_fillTable_66 : decode cX2_fillTable 66 = .ok (.ineg, 1) := by decide +kernel
theorem dX2_fillTable_67 : decode cX2_fillTable 67 = .ok (.i2l, 1) := by decide +kernel
theorem dX2_fillTable_68 : decode cX2_fillTable 68 = .ok (.lastore, 1) := by decide +kernel
theorem dX2_fillTable_69 : decode cX2_fillTable 69 = .ok (.iinc 4 1, 3) := by decide +kernel
theorem dX2_fillTable_72 : decode cX2_fillTable 72 = .ok (.goto (-48), 3) := by decide +kernel
theorem dX2_fillTable_75 : decode cX2_fillTable 75 = .ok (.iinc 3 1, 3) := by decide +kernel
theorem dX2_fillTable_78 : decode cX2_fillTable 78 = .ok (.goto (-76), 3) := by decide +kernel
theorem dX2_fillTable_81 : decode cX2_fillTable 81 = .ok (.return_, 1) := by decide +kernel
theorem dX2_clearInRow_0 : decode cX2_clearInRow 0 = .ok (.lload 4, 2) := by decide +kernel
theorem dX2_clearInRow_2 : decode cX2_clearInRow 2 = .ok (.lconst 0, 1) := by decide +kernel
theorem dX2_clearInRow_3 : decode cX2_clearInRow 3 = .ok (.lcmp, 1) := by decide +kernel
theorem dX2_clearInRow_4 : decode cX2_clearInRow 4 = .ok (.ifCond .ne 4, 3) := by decide +kernel
theorem dX2_clearInRow_7 : decode cX2_clearInRow 7 = .ok (.return_, 1) := by decide +kernel
theorem dX2_clearInRow_8 : decode cX2_clearInRow 8 = .ok (.aload_n 0, 1) := by decide +kernel
theorem dX2_clearInRow_9 : decode cX2_clearInRow 9 = .ok (.getfield 29, 3) := by decide +kernel
theorem dX2_clearInRow_12 : decode cX2_clearInRow 12 = .ok (.iload_n 3, 1) := by decide +kernel
theorem dX2_clearInRow_13 : decode cX2_clearInRow 13 = .ok (.aaload, 1) := by decide +kernel
theorem dX2_clearInRow_14 : decode cX2_clearInRow 14 = .ok (.iload_n 3, 1) := by decide +kernel
theorem dX2_clearInRow_15 : decode cX2_clearInRow 15 = .ok (.laload, 1) := by decide +kernel
theorem dX2_clearInRow_16 : decode cX2_clearInRow 16 = .ok (.lstore 6, 2) := by decide +kernel
theorem dX2_clearInRow_18 : decode cX2_clearInRow 18 = .ok (.aload_n 0, 1) := by decide +kernel
theorem dX2_clearInRow_19 : decode cX2_clearInRow 19 = .ok (.getfield 29, 3) := by decide +kernel
theorem dX2_clearInRow_22 : decode cX2_clearInRow 22 = .ok (.iload_n 2, 1) := by decide +kernel
theorem dX2_clearInRow_23 : decode cX2_clearInRow 23 = .ok (.aaload, 1) := by decide +kernel
theorem dX2_clearInRow_24 : decode cX2_clearInRow 24 = .ok (.iload_n 3, 1) := by decide +kernel
theorem dX2_clearInRow_25 : decode cX2_clearInRow 25 = .ok (.laload, 1) := by decide +kernel
theorem dX2_clearInRow_26 : decode cX2_clearInRow 26 = .ok (.lstore 8, 2) := by decide +kernel
theorem dX2_clearInRow_28 : decode cX2_clearInRow 28 = .ok (.iconst 0, 1) := by decide +kernel
theorem dX2_clearInRow_29 : decode cX2_clearInRow 29 = .ok (.istore 10, 2) := by decide +kernel
theorem dX2_clearInRow_31 : decode cX2_clearInRow 31 = .ok (.iload 10, 2) := by decide +kernel
theorem dX2_clearInRow_33 : decode cX2_clearInRow 33 = .ok (.aload_n 1, 1) := by decide +kernel
theorem dX2_clearInRow_34 : decode cX2_clearInRow 34 = .ok (.getfield 32, 3) := by decide +kernel
theorem dX2_clearInRow_37 : decode cX2_clearInRow 37 = .ok (.if_icmp .ge 46, 3) := by decide +kernel
theorem dX2_clearInRow_40 : decode cX2_clearInRow 40 = .ok (.aload_n 0, 1) := by decide +kernel
theorem dX2_clearInRow_41 : decode cX2_clearInRow 41 = .ok (.getfield 29, 3) := by decide +kernel
theorem dX2_clearInRow_44 : decode cX2_clearInRow 44 = .ok (.iload_n 2, 1) := by decide +kernel
theorem dX2_clearInRow_45 : decode cX2_clearInRow 45 = .ok (.aaload, 1) := by decide +kernel
theorem dX2_clearInRow_46 : decode cX2_clearInRow 46 = .ok (.iload 10, 2) := by decide +kernel
theorem dX2_clearInRow_48 : decode cX2_clearInRow 48 = .ok (.lload 6, 2) := by decide +kernel
theorem dX2_clearInRow_50 : decode cX2_clearInRow 50 = .ok (.aload_n 0, 1) := by decide +kernel
theorem dX2_clearInRow_51 : decode cX2_clearInRow 51 = .ok (.getfield 29, 3) := by decide +kernel
theorem dX2_clearInRow_54 : decode cX2_clearInRow 54 = .ok (.iload_n 2, 1) := by decide +kernel
theorem dX2_clearInRow_55 : decode cX2_clearInRow 55 = .ok (.aaload, 1) := by decide +kernel
theorem dX2_clearInRow_56 : decode cX2_clearInRow 56 = .ok (.iload 10, 2) := by decide +kernel
theorem dX2_clearInRow_58 : decode cX2_clearInRow 58 = .ok (.laload, 1) := by decide +kernel
theorem dX2_clearInRow_59 : decode cX2_clearInRow 59 = .ok (.lmul, 1) := by decide +kernel
theorem dX2_clearInRow_60 : decode cX2_clearInRow 60 = .ok (.lload 8, 2) := by decide +kernel
theorem dX2_clearInRow_62 : decode cX2_clearInRow 62 = .ok (.aload_n 0, 1) := by decide +kernel
theorem dX2_clearInRow_63 : decode cX2_clearInRow 63 = .ok (.getfield 29, 3) := by decide +kernel
theorem dX2_clearInRow_66 : decode cX2_clearInRow 66 = .ok (.iload_n 3, 1) := by decide +kernel
theorem dX2_clearInRow_67 : decode cX2_clearInRow 67 = .ok (.aaload, 1) := by decide +kernel
theorem dX2_clearInRow_68 : decode cX2_clearInRow 68 = .ok (.iload 10, 2) := by decide +kernel
theorem dX2_clearInRow_70 : decode cX2_clearInRow 70 = .ok (.laload, 1) := by decide +kernel
theorem dX2_clearInRow_71 : decode cX2_clearInRow 71 = .ok (.lmul, 1) := by decide +kernel
theorem dX2_clearInRow_72 : decode cX2_clearInRow 72 = .ok (.lsub, 1) := by decide +kernel
theorem dX2_clearInRow_73 : decode cX2_clearInRow 73 = .ok (.lload 4, 2) := by decide +kernel
theorem dX2_clearInRow_75 : decode cX2_clearInRow 75 = .ok (.ldiv, 1) := by decide +kernel
theorem dX2_clearInRow_76 : decode cX2_clearInRow 76 = .ok (.lastore, 1) := by decide +kernel
theorem dX2_clearInRow_77 : decode cX2_clearInRow 77 = .ok (.iinc 10 1, 3) := by decide +kernel
theorem dX2_clearInRow_80 : decode cX2_clearInRow 80 = .ok (.goto (-49), 3) := by decide +kernel
theorem dX2_clearInRow_83 : decode cX2_clearInRow 83 = .ok (.return_, 1) := by decide +kernel
theorem dX3_init_0 : decode cX3_init 0 = .ok (.aload_n 0, 1) := by decide +kernel
theorem dX3_init_1 : decode cX3_init 1 = .ok (.invokespecial 3, 3) := by decide +kernel
theorem dX3_init_4 : decode cX3_init 4 = .ok (.aload_n 0, 1) := by decide +kernel
theorem dX3_init_5 : decode cX3_init 5 = .ok (.bipush 8, 2) := by decide +kernel
theorem dX3_init_7 : decode cX3_init 7 = .ok (.bipush 8, 2) := by decide +kernel
theorem dX3_init_9 : decode cX3_init 9 = .ok (.multianewarray 9 2, 4) := by decide +kernel
theorem dX3_init_13 : decode cX3_init 13 = .ok (.putfield 11, 3) := by decide +kernel
theorem dX3_init_16 : decode cX3_init 16 = .ok (.aload_n 0, 1) := by decide +kernel
theorem dX3_init_17 : decode cX3_init 17 = .ok (.bipush 8, 2) := by decide +kernel
theorem dX3_init_19 : decode cX3_init 19 = .ok (.newarray .long, 2) := by decide +kernel
theorem dX3_init_21 : decode cX3_init 21 = .ok (.putfield 16, 3) := by decide +kernel
theorem dX3_init_24 : decode cX3_init 24 = .ok (.aload_n 0, 1) := by decide +kernel
theorem dX3_init_25 : decode cX3_init 25 = .ok (.iconst 0, 1) := by decide +kernel
theorem dX3_init_26 : decode cX3_init 26 = .ok (.putfield 20, 3) := by decide +kernel
theorem dX3_init_29 : decode cX3_init 29 = .ok (.aload_n 0, 1) := by decide +kernel
theorem dX3_init_30 : decode cX3_init 30 = .ok (.iconst 0, 1) := by decide +kernel
theorem dX3_init_31 : decode cX3_init 31 = .ok (.putfield 24, 3) := by decide +kernel
theorem dX3_init_34 : decode cX3_init 34 = .ok (.aload_n 0, 1) := by decide +kernel
theorem dX3_init_35 : decode cX3_init 35 = .ok (.lconst 1, 1) := by decide +kernel
theorem dX3_init_36 : decode cX3_init 36 = .ok (.putfield 27, 3) := by decide +kernel
theorem dX3_init_39 : decode cX3_init 39 = .ok (.return_, 1) := by decide +kernel
set_option maxRecDepth 20000 in
theorem ggX3_split_X3_fillTable : GoodIn wsX3_split wsX3_fillTable := goodIn_r _ [15, 2, 16, 17, 9, 18, 19, 20, 14, 21, 7, 22, 23, 24, 25, 63, 64, 65, 66, 67, 59, 60, 61, 62] (by decide +kernel) (by decide +kernel)
set_option maxRecDepth 20000 in
theorem gX3_split_X3_fillTable : GoodIn wsX3_split (wsV RX3 42 RX3 yX3_fillTable wsX3_fillTable) := goodIn_app (goodIn_of _ (by decide +kernel)) ggX3_split_X3_fillTable
set_option maxRecDepth 20000 in
theorem ggX3_split_X3_clearCross : GoodIn wsX3_split wsX3_clearCross := goodIn_r _ [29, 9, 30, 31, 32, 14, 33, 2, 34, 35, 36, 37, 38, 39, 40, 41, 42, 43, 44, 18, 19, 20, 21, 7, 22, 23, 24, 25, 45, 46, 47, 48, 63, 64, 65, 66, 67] (by decide +kernel) (by decide +kernel)
set_option maxRecDepth 20000 in
theorem gX3_split_X3_clearCross : GoodIn wsX3_split (wsV RX3 46 RX3 yX3_clearCross wsX3_clearCross) := goodIn_app (goodIn_of _ (by decide +kernel)) ggX3_split_X3_clearCross
set_option maxRecDepth 20000 in
theorem ggX3_split_X5_commonDivisor : GoodIn wsX3_split wsX5_commonDivisor := goodIn_r _ [51, 52, 53, 5, 54] (by decide +kernel) (by decide +kernel)
set_option maxRecDepth 20000 in
theorem gX3_split_X5_commonDivisor_n50 : GoodIn wsX3_split (wsX5_commonDivisor) := ggX3_split_X5_commonDivisor
set_option maxRecDepth 20000 in
theorem ggX3_split_X3_makeChain : GoodIn wsX3_split wsX3_makeChain := goodIn_r _ [58, 2, 8, 49, 50, 51, 52, 53, 5, 54, 63, 64, 65, 66, 67] (by decide +kernel) (by decide +kernel)
set_option maxRecDepth 20000 in
theorem gX3_split_X3_makeChain : GoodIn wsX3_split (wsV RX3 53 RX3 yX3_makeChain wsX3_makeChain) := goodIn_app (goodIn_of _ (by decide +kernel)) ggX3_split_X3_makeChain
theorem dX3_split_0 : decode cX3_split 0 = .ok (.aload_n 0, 1) := by decide +kernel
theorem dX3_split_1 : decode cX3_split 1 = .ok (.aload_n 1, 1) := by decide +kernel
theorem dX3_split_2 : decode cX3_split 2 = .ok (.getfield 31, 3) := by decide +kernel
theorem dX3_split_5 : decode cX3_split 5 = .ok (.iconst 1, 1) := by decide +kernel
theorem dX3_split_6 : decode cX3_split 6 = .ok (.isub, 1) := by decide +kernel
theorem dX3_split_7 : decode cX3_split 7 = .ok (.putfield 20, 3) := by decide +kernel
theorem dX3_split_10 : decode cX3_split 10 = .ok (.aload_n 0, 1) := by decide +kernel
theorem dX3_split_11 : decode cX3_split 11 = .ok (.lconst 1, 1) := by decide +kernel
theorem dX3_split_12 : decode cX3_split 12 = .ok (.lload_n 2, 1) := by decide +kernel
theorem dX3_split_13 : decode cX3_split 13 = .ok (.invokestatic 36, 3) := by decide +kernel
theorem dX3_split_16 : decode cX3_split 16 = .ok (.putfield 27, 3) := by decide +kernel
theorem dX3_split_19 : decode cX3_split 19 = .ok (.aload_n 0, 1) := by decide +kernel
theorem dX3_split_20 : decode cX3_split 20 = .ok (.aload_n 1, 1) := by decide +kernel
theorem dX3_split_21 : decode cX3_split 21 = .ok (.invokevirtual 42, 3) := by decide +kernel
theorem dX3_split_24 : decode cX3_split 24 = .ok (.iconst 0, 1) := by decide +kernel
theorem dX3_split_25 : decode cX3_split 25 = .ok (.istore 4, 2) := by decide +kernel
theorem dX3_split_27 : decode cX3_split 27 = .ok (.iload 4, 2) := by decide +kernel
theorem dX3_split_29 : decode cX3_split 29 = .ok (.aload_n 0, 1) := by decide +kernel
theorem dX3_split_30 : decode cX3_split 30 = .ok (.getfield 20, 3) := by decide +kernel
theorem dX3_split_33 : decode cX3_split 33 = .ok (.if_icmp .ge 39, 3) := by decide +kernel
theorem dX3_split_36 : decode cX3_split 36 = .ok (.aload_n 0, 1) := by decide +kernel
theorem dX3_split_37 : decode cX3_split 37 = .ok (.iload 4, 2) := by decide +kernel
theorem dX3_split_39 : decode cX3_split 39 = .ok (.invokevirtual 46, 3) := by decide +kernel
theorem dX3_split_42 : decode cX3_split 42 = .ok (.aload_n 0, 1) := by decide +kernel
theorem dX3_split_43 : decode cX3_split 43 = .ok (.getfield 16, 3) := by decide +kernel
theorem dX3_split_46 : decode cX3_split 46 = .ok (.iload 4, 2) := by decide +kernel
theorem dX3_split_48 : decode cX3_split 48 = .ok (.aload_n 0, 1) := by decide +kernel
theorem dX3_split_49 : decode cX3_split 49 = .ok (.getfield 11, 3) := by decide +kernel
theorem dX3_split_52 : decode cX3_split 52 = .ok (.iload 4, 2) := by decide +kernel
theorem dX3_split_54 : decode cX3_split 54 = .ok (.aaload, 1) := by decide +kernel
theorem dX3_split_55 : decode cX3_split 55 = .ok (.iload 4, 2) := by decide +kernel
theorem dX3_split_57 : decode cX3_split 57 = .ok (.laload, 1) := by decide +kernel
theorem dX3_split_58 : decode cX3_split 58 = .ok (.aload_n 0, 1) := by decide +kernel
theorem dX3_split_59 : decode cX3_split 59 = .ok (.getfield 27, 3) := by decide +kernel
theorem dX3_split_62 : decode cX3_split 62 = .ok (.invokestatic 50, 3) := by decide +kernel
theorem dX3_split_65 : decode cX3_split 65 = .ok (.lastore, 1) := by decide +kernel
theorem dX3_split_66 : decode cX3_split 66 = .ok (.iinc 4 1, 3) := by decide +kernel
theorem dX3_split_69 : decode cX3_split 69 = .ok (.goto (-42), 3) := by decide +kernel
theorem dX3_split_72 : decode cX3_split 72 = .ok (.aload_n 0, 1) := by decide +kernel
theorem dX3_split_73 : decode cX3_split 73 = .ok (.invokevirtual 53, 3) := by decide +kernel
theorem dX3_split_76 : decode cX3_split 76 = .ok (.aload_n 0, 1) := by decide +kernel
theorem dX3_split_77 : decode cX3_split 77 = .ok (.iconst 0, 1) := by decide +kernel
theorem dX3_split_78 : decode cX3_split 78 = .ok (.putfield 24, 3) := by decide +kernel
theorem dX3_split_81 : decode cX3_split 81 = .ok (.iconst 0, 1) := by decide +kernel
theorem dX3_split_82 : decode cX3_split 82 = .ok (.istore 4, 2) := by decide +kernel
theorem dX3_split_84 : decode cX3_split 84 = .ok (.iload 4, 2) := by decide +kernel
theorem dX3_split_86 : decode cX3_split 86 = .ok (.aload_n 0, 1) := by decide +kernel
theorem dX3_split_87 : decode cX3_split 87 = .ok (.getfield 20, 3) := by decide +kernel
theorem dX3_split_90 : decode cX3_split 90 = .ok (.if_icmp .ge 35, 3) := by decide +kernel
theorem dX3_split_93 : decode cX3_split 93 = .ok (.aload_n 0, 1) := by decide +kernel
theorem dX3_split_94 : decode cX3_split 94 = .ok (.dup, 1) := by decide +kernel
theorem dX3_split_95 : decode cX3_split 95 = .ok (.getfield 24, 3) := by decide +kernel
theorem dX3_split_98 : decode cX3_split 98 = .ok (.aload_n 0, 1) := by decide +kernel
theorem dX3_split_99 : decode cX3_split 99 = .ok (.getfield 16, 3) := by decide +kernel
theorem dX3_split_102 : decode cX3_split 102 = .ok (.iload 4, 2) := by decide +kernel
theorem dX3_split_104 : decode cX3_split 104 = .ok (.laload, 1) := by decide +kernel
theorem dX3_split_105 : decode cX3_split 105 = .ok (.lconst 1, 1) := by decide +kernel
theorem dX3_split_106 : decode cX3_split 106 = .ok (.lcmp, 1) := by decide +kernel
theorem dX3_split_107 : decode cX3_split 107 = .ok (.ifCond .ne 7, 3) := by decide +kernel
theorem dX3_split_110 : decode cX3_split 110 = .ok (.iconst 1, 1) := by decide +kernel
theorem dX3_split_111 : decode cX3_split 111 = .ok (.goto 4, 3) := by decide +kernel
theorem dX3_split_114 : decode cX3_split 114 = .ok (.iconst 0, 1) := by decide +kernel
theorem dX3_split_115 : decode cX3_split 115 = .ok (.iadd, 1) := by decide +kernel
theorem dX3_split_116 : decode cX3_split 116 = .ok (.putfield 24, 3) := by decide +kernel
theorem dX3_split_119 : decode cX3_split 119 = .ok (.iinc 4 1, 3) := by decide +kernel
theorem dX3_split_122 : decode cX3_split 122 = .ok (.goto (-38), 3) := by decide +kernel
theorem dX3_split_125 : decode cX3_split 125 = .ok (.aload_n 0, 1) := by decide +kernel
theorem dX3_split_126 : decode cX3_split 126 = .ok (.getfield 20, 3) := by decide +kernel
theorem dX3_split_129 : decode cX3_split 129 = .ok (.aload_n 0, 1) := by decide +kernel
theorem dX3_split_130 : decode cX3_split 130 = .ok (.getfield 24, 3) := by decide +kernel
theorem dX3_split_133 : decode cX3_split 133 = .ok (.isub, 1) := by decide +kernel
theorem dX3_split_134 : decode cX3_split 134 = .ok (.ireturn, 1) := by decide +kernel
theorem dX3_told_0 : decode cX3_told 0 = .ok (.aload_n 0, 1) := by decide +kernel
theorem dX3_told_1 : decode cX3_told 1 = .ok (.getfield 24, 3) := by decide +kernel
theorem dX3_told_4 : decode cX3_told 4 = .ok (.iload_n 1, 1) := by decide +kernel
theorem dX3_told_5 : decode cX3_told 5 = .ok (.iadd, 1) := by decide +kernel
theorem dX3_told_6 : decode cX3_told 6 = .ok (.istore_n 2, 1) := by decide +kernel
theorem dX3_told_7 : decode cX3_told 7 = .ok (.iload_n 2, 1) := by decide +kernel
theorem dX3_told_8 : decode cX3_told 8 = .ok (.ifCond .lt 20, 3) := by decide +kernel
theorem dX3_told_11 : decode cX3_told 11 = .ok (.iload_n 2, 1) := by decide +kernel
theorem dX3_told_12 : decode cX3_told 12 = .ok (.aload_n 0, 1) := by decide +kernel
theorem dX3_told_13 : decode cX3_told 13 = .ok (.getfield 20, 3) := by decide +kernel
theorem dX3_told_16 : decode cX3_told 16 = .ok (.if_icmp .ge 12, 3) := by decide +kernel
theorem dX3_told_19 : decode cX3_told 19 = .ok (.aload_n 0, 1) := by decide +kernel
theorem dX3_told_20 : decode cX3_told 20 = .ok (.getfield 16, 3) := by decide +kernel
theorem dX3_told_23 : decode cX3_told 23 = .ok (.iload_n 2, 1) := by decide +kernel
theorem dX3_told_24 : decode cX3_told 24 = .ok (.laload, 1) := by decide +kernel
theorem dX3_told_25 : decode cX3_told 25 = .ok (.goto 4, 3) := by decide +kernel
theorem dX3_told_28 : decode cX3_told 28 = .ok (.lconst 1, 1) := by decide +kernel
theorem dX3_told_29 : decode cX3_told 29 = .ok (.lreturn, 1) := by decide +kernel
set_option maxRecDepth 20000 in
theorem ggX3_fillTable_X3_counted : GoodIn wsX3_fillTable wsX3_counted := goodIn_r _ [9, 10, 11, 12, 13, 14, 15, 16, 17, 18, 19] (by decide +kernel) (by decide +kernel)
set_option maxRecDepth 20000 in
theorem gX3_fillTable_X3_counted : GoodIn wsX3_fillTable (wsV RX3 64 RX3 yX3_counted wsX3_counted) := goodIn_app (goodIn_of _ (by decide +kernel)) ggX3_fillTable_X3_counted
theorem dX3_fillTable_0 : decode cX3_fillTable 0 = .ok (.iconst 0, 1) := by decide +kernel
theorem dX3_fillTable_1 : decode cX3_fillTable 1 = .ok (.istore_n 2, 1) := by decide +kernel
theorem dX3_fillTable_2 : decode cX3_fillTable 2 = .ok (.iload_n 2, 1) := by decide +kernel
theorem dX3_fillTable_3 : decode cX3_fillTable 3 = .ok (.aload_n 0, 1) := by decide +kernel
theorem dX3_fillTable_4 : decode cX3_fillTable 4 = .ok (.getfield 20, 3) := by decide +kernel
theorem dX3_fillTable_7 : decode cX3_fillTable 7 = .ok (.if_icmp .ge 72, 3) := by decide +kernel
theorem dX3_fillTable_10 : decode cX3_fillTable 10 = .ok (.iconst 0, 1) := by decide +kernel
theorem dX3_fillTable_11 : decode cX3_fillTable 11 = .ok (.istore_n 3, 1) := by decide +kernel
theorem dX3_fillTable_12 : decode cX3_fillTable 12 = .ok (.iload_n 3, 1) := by decide +kernel
theorem dX3_fillTable_13 : decode cX3_fillTable 13 = .ok (.aload_n 0, 1) := by decide +kernel
theorem dX3_fillTable_14 : decode cX3_fillTable 14 = .ok (.getfield 20, 3) := by decide +kernel
theorem dX3_fillTable_17 : decode cX3_fillTable 17 = .ok (.if_icmp .ge 56, 3) := by decide +kernel
theorem dX3_fillTable_20 : decode cX3_fillTable 20 = .ok (.iload_n 2, 1) := by decide +kernel
theorem dX3_fillTable_21 : decode cX3_fillTable 21 = .ok (.iload_n 3, 1) := by decide +kernel
theorem dX3_fillTable_22 : decode cX3_fillTable 22 = .ok (.if_icmp .ne 15, 3) := by decide +kernel
theorem dX3_fillTable_25 : decode cX3_fillTable 25 = .ok (.aload_n 1, 1) := by decide +kernel
theorem dX3_fillTable_26 : decode cX3_fillTable 26 = .ok (.getfield 56, 3) := by decide +kernel
theorem dX3_fillTable_29 : decode cX3_fillTable 29 = .ok (.iload_n 2, 1) := by decide +kernel
theorem dX3_fillTable_30 : decode cX3_fillTable 30 = .ok (.iconst 1, 1) := by decide +kernel
theorem dX3_fillTable_31 : decode cX3_fillTable 31 = .ok (.iadd, 1) := by decide +kernel
theorem dX3_fillTable_32 : decode cX3_fillTable 32 = .ok (.iaload, 1) := by decide +kernel
theorem dX3_fillTable_33 : decode cX3_fillTable 33 = .ok (.i2l, 1) := by decide +kernel
theorem dX3_fillTable_34 : decode cX3_fillTable 34 = .ok (.goto 17, 3) := by decide +kernel
theorem dX3_fillTable_37 : decode cX3_fillTable 37 = .ok (.aload_n 1, 1) := by decide +kernel
theorem dX3_fillTable_38 : decode cX3_fillTable 38 = .ok (.getfield 60, 3) := by decide +kernel
theorem dX3_fillTable_41 : decode cX3_fillTable 41 = .ok (.iload_n 2, 1) := by decide +kernel
theorem dX3_fillTable_42 : decode cX3_fillTable 42 = .ok (.iconst 1, 1) := by decide +kernel
theorem dX3_fillTable_43 : decode cX3_fillTable 43 = .ok (.iadd, 1) := by decide +kernel
theorem dX3_fillTable_44 : decode cX3_fillTable 44 = .ok (.aaload, 1) := by decide +kernel
theorem dX3_fillTable_45 : decode cX3_fillTable 45 = .ok (.iload_n 3, 1) := by decide +kernel
theorem dX3_fillTable_46 : decode cX3_fillTable 46 = .ok (.iconst 1, 1) := by decide +kernel
theorem dX3_fillTable_47 : decode cX3_fillTable 47 = .ok (.iadd, 1) := by decide +kernel
theorem dX3_fillTable_48 : decode cX3_fillTable 48 = .ok (.iaload, 1) := by decide +kernel
theorem dX3_fillTable_49 : decode cX3_fillTable 49 = .ok (.ineg, 1) := by decide +kernel
theorem dX3_fillTable_50 : decode cX3_fillTable 50 = .ok (.i2l, 1) := by decide +kernel
theorem dX3_fillTable_51 : decode cX3_fillTable 51 = .ok (.lstore 4, 2) := by decide +kernel
theorem dX3_fillTable_53 : decode cX3_fillTable 53 = .ok (.aload_n 0, 1) := by decide +kernel
theorem dX3_fillTable_54 : decode cX3_fillTable 54 = .ok (.getfield 11, 3) := by decide +kernel
theorem dX3_fillTable_57 : decode cX3_fillTable 57 = .ok (.iload_n 2, 1) := by decide +kernel
theorem dX3_fillTable_58 : decode cX3_fillTable 58 = .ok (.aaload, 1) := by decide +kernel
theorem dX3_fillTable_59 : decode cX3_fillTable 59 = .ok (.iload_n 3, 1) := by decide +kernel
theorem dX3_fillTable_60 : decode cX3_fillTable 60 = .ok (.aload_n 0, 1) := by decide +kernel
theorem dX3_fillTable_61 : decode cX3_fillTable 61 = .ok (.lload 4, 2) := by decide +kernel
theorem dX3_fillTable_63 : decode cX3_fillTable 63 = .ok (.invokevirtual 64, 3) := by decide +kernel
theorem dX3_fillTable_66 : decode cX3_fillTable 66 = .ok (.lastore, 1) := by decide +kernel
theorem dX3_fillTable_67 : decode cX3_fillTable 67 = .ok (.iinc 3 1, 3) := by decide +kernel
theorem dX3_fillTable_70 : decode cX3_fillTable 70 = .ok (.goto (-58), 3) := by decide +kernel
theorem dX3_fillTable_73 : decode cX3_fillTable 73 = .ok (.iinc 2 1, 3) := by decide +kernel
theorem dX3_fillTable_76 : decode cX3_fillTable 76 = .ok (.goto (-74), 3) := by decide +kernel
theorem dX3_fillTable_79 : decode cX3_fillTable 79 = .ok (.return_, 1) := by decide +kernel
set_option maxRecDepth 20000 in
theorem ggX3_counted_J9_floorMod_f86c9 : GoodIn wsX3_counted wsJ9_floorMod_f86c9 := goodIn_r _ [5] (by decide +kernel) (by decide +kernel)
set_option maxRecDepth 20000 in
theorem gX3_counted_J9_floorMod_f86c9 : GoodIn wsX3_counted (va_wsS RX3 68 yJ9_floorMod_f86c9 wsJ9_floorMod_f86c9) := goodIn_app (goodIn_of _ (by decide +kernel)) ggX3_counted_J9_floorMod_f86c9
theorem dX3_counted_0 : decode cX3_counted 0 = .ok (.aload_n 0, 1) := by decide +kernel
theorem dX3_counted_1 : decode cX3_counted 1 = .ok (.getfield 27, 3) := by decide +kernel
theorem dX3_counted_4 : decode cX3_counted 4 = .ok (.lconst 0, 1) := by decide +kernel
theorem dX3_counted_5 : decode cX3_counted 5 = .ok (.lcmp, 1) := by decide +kernel
theorem dX3_counted_6 : decode cX3_counted 6 = .ok (.ifCond .gt 7, 3) := by decide +kernel
theorem dX3_counted_9 : decode cX3_counted 9 = .ok (.lconst 0, 1) := by decide +kernel
theorem dX3_counted_10 : decode cX3_counted 10 = .ok (.goto 11, 3) := by decide +kernel
theorem dX3_counted_13 : decode cX3_counted 13 = .ok (.lload_n 1, 1) := by decide +kernel
theorem dX3_counted_14 : decode cX3_counted 14 = .ok (.aload_n 0, 1) := by decide +kernel
theorem dX3_counted_15 : decode cX3_counted 15 = .ok (.getfield 27, 3) := by decide +kernel
theorem dX3_counted_18 : decode cX3_counted 18 = .ok (.invokestatic 68, 3) := by decide +kernel
theorem dX3_counted_21 : decode cX3_counted 21 = .ok (.lreturn, 1) := by decide +kernel
set_option maxRecDepth 20000 in
theorem ggX3_clearCross_X3_isClear : GoodIn wsX3_clearCross wsX3_isClear := goodIn_r _ [6, 7, 1, 32, 33, 34, 35, 36] (by decide +kernel) (by decide +kernel)
set_option maxRecDepth 20000 in
theorem gX3_clearCross_X3_isClear : GoodIn wsX3_clearCross (wsV RX3 71 RX3 yX3_isClear wsX3_isClear) := goodIn_app (goodIn_of _ (by decide +kernel)) ggX3_clearCross_X3_isClear
set_option maxRecDepth 20000 in
theorem ggX3_clearCross_X3_bringLeast : GoodIn wsX3_clearCross wsX3_bringLeast := goodIn_r _ [11, 7, 1, 12, 13, 5, 14, 32, 33, 34, 35, 36] (by decide +kernel) (by decide +kernel)
set_option maxRecDepth 20000 in
theorem gX3_clearCross_X3_bringLeast : GoodIn wsX3_clearCross (wsV RX3 75 RX3 yX3_bringLeast wsX3_bringLeast) := goodIn_app (goodIn_of _ (by decide +kernel)) ggX3_clearCross_X3_bringLeast
set_option maxRecDepth 20000 in
theorem ggX3_clearCross_X3_lowerRows : GoodIn wsX3_clearCross wsX3_lowerRows := goodIn_r _ [18, 7, 1, 19, 20, 21, 5, 22, 23, 24, 25, 26, 27, 32, 33, 34, 35, 36] (by decide +kernel) (by decide +kernel)
set_option maxRecDepth 20000 in
theorem gX3_clearCross_X3_lowerRows : GoodIn wsX3_clearCross (wsV RX3 78 RX3 yX3_lowerRows wsX3_lowerRows) := goodIn_app (goodIn_of _ (by decide +kernel)) ggX3_clearCross_X3_lowerRows
set_option maxRecDepth 20000 in
theorem ggX3_clearCross_X3_lowerColumns : GoodIn wsX3_clearCross wsX3_lowerColumns := goodIn_r _ [31, 7, 1, 19, 20, 21, 5, 22, 23, 24, 25, 26, 27, 32, 33, 34, 35, 36] (by decide +kernel) (by decide +kernel)
set_option maxRecDepth 20000 in
theorem gX3_clearCross_X3_lowerColumns : GoodIn wsX3_clearCross (wsV RX3 82 RX3 yX3_lowerColumns wsX3_lowerColumns) := goodIn_app (goodIn_of _ (by decide +kernel)) ggX3_clearCross_X3_lowerColumns
theorem dX3_clearCross_0 : decode cX3_clearCross 0 = .ok (.iconst 0, 1) := by decide +kernel
theorem dX3_clearCross_1 : decode cX3_clearCross 1 = .ok (.istore_n 2, 1) := by decide +kernel
theorem dX3_clearCross_2 : decode cX3_clearCross 2 = .ok (.iload_n 2, 1) := by decide +kernel
theorem dX3_clearCross_3 : decode cX3_clearCross 3 = .ok (.sipush 1000, 3) := by decide +kernel
theorem dX3_clearCross_6 : decode cX3_clearCross 6 = .ok (.if_icmp .ge 49, 3) := by decide +kernel
theorem dX3_clearCross_9 : decode cX3_clearCross 9 = .ok (.aload_n 0, 1) := by decide +kernel
theorem dX3_clearCross_10 : decode cX3_clearCross 10 = .ok (.iload_n 1, 1) := by decide +kernel
theorem dX3_clearCross_11 : decode cX3_clearCross 11 = .ok (.invokevirtual 71, 3) := by decide +kernel
theorem dX3_clearCross_14 : decode cX3_clearCross 14 = .ok (.ifCond .ne 41, 3) := by decide +kernel
theorem dX3_clearCross_17 : decode cX3_clearCross 17 = .ok (.aload_n 0, 1) := by decide +kernel
theorem dX3_clearCross_18 : decode cX3_clearCross 18 = .ok (.iload_n 1, 1) := by decide +kernel
theorem dX3_clearCross_19 : decode cX3_clearCross 19 = .ok (.invokevirtual 75, 3) := by decide +kernel
theorem dX3_clearCross_22 : decode cX3_clearCross 22 = .ok (.aload_n 0, 1) := by decide +kernel
theorem dX3_clearCross_23 : decode cX3_clearCross 23 = .ok (.getfield 11, 3) := by decide +kernel
theorem dX3_clearCross_26 : decode cX3_clearCross 26 = .ok (.iload_n 1, 1) := by decide +kernel
theorem dX3_clearCross_27 : decode cX3_clearCross 27 = .ok (.aaload, 1) := by decide +kernel
theorem dX3_clearCross_28 : decode cX3_clearCross 28 = .ok (.iload_n 1, 1) := by decide +kernel
theorem dX3_clearCross_29 : decode cX3_clearCross 29 = .ok (.laload, 1) := by decide +kernel
theorem dX3_clearCross_30 : decode cX3_clearCross 30 = .ok (.lstore_n 3, 1) := by decide +kernel
theorem dX3_clearCross_31 : decode cX3_clearCross 31 = .ok (.lload_n 3, 1) := by decide +kernel
theorem dX3_clearCross_32 : decode cX3_clearCross 32 = .ok (.lconst 0, 1) := by decide +kernel
theorem dX3_clearCross_33 : decode cX3_clearCross 33 = .ok (.lcmp, 1) := by decide +kernel
theorem dX3_clearCross_34 : decode cX3_clearCross 34 = .ok (.ifCond .le 15, 3) := by decide +kernel
theorem dX3_clearCross_37 : decode cX3_clearCross 37 = .ok (.aload_n 0, 1) := by decide +kernel
theorem dX3_clearCross_38 : decode cX3_clearCross 38 = .ok (.iload_n 1, 1) := by decide +kernel
theorem dX3_clearCross_39 : decode cX3_clearCross 39 = .ok (.lload_n 3, 1) := by decide +kernel
theorem dX3_clearCross_40 : decode cX3_clearCross 40 = .ok (.invokevirtual 78, 3) := by decide +kernel
theorem dX3_clearCross_43 : decode cX3_clearCross 43 = .ok (.aload_n 0, 1) := by decide +kernel
theorem dX3_clearCross_44 : decode cX3_clearCross 44 = .ok (.iload_n 1, 1) := by decide +kernel
theorem dX3_clearCross_45 : decode cX3_clearCross 45 = .ok (.lload_n 3, 1) := by decide +kernel
theorem dX3_clearCross_46 : decode cX3_clearCross 46 = .ok (.invokevirtual 82, 3) := by decide +kernel
theorem dX3_clearCross_49 : decode cX3_clearCross 49 = .ok (.iinc 2 1, 3) := by decide +kernel
theorem dX3_clearCross_52 : decode cX3_clearCross 52 = .ok (.goto (-50), 3) := by decide +kernel
theorem dX3_clearCross_55 : decode cX3_clearCross 55 = .ok (.return_, 1) := by decide +kernel
theorem dX3_isClear_0 : decode cX3_isClear 0 = .ok (.iload_n 1, 1) := by decide +kernel
theorem dX3_isClear_1 : decode cX3_isClear 1 = .ok (.iconst 1, 1) := by decide +kernel
theorem dX3_isClear_2 : decode cX3_isClear 2 = .ok (.iadd, 1) := by decide +kernel
theorem dX3_isClear_3 : decode cX3_isClear 3 = .ok (.istore_n 2, 1) := by decide +kernel
theorem dX3_isClear_4 : decode cX3_isClear 4 = .ok (.iload_n 2, 1) := by decide +kernel
theorem dX3_isClear_5 : decode cX3_isClear 5 = .ok (.aload_n 0, 1) := by decide +kernel
theorem dX3_isClear_6 : decode cX3_isClear 6 = .ok (.getfield 20, 3) := by decide +kernel
theorem dX3_isClear_9 : decode cX3_isClear 9 = .ok (.if_icmp .ge 37, 3) := by decide +kernel
theorem dX3_isClear_12 : decode cX3_isClear 12 = .ok (.aload_n 0, 1) := by decide +kernel
theorem dX3_isClear_13 : decode cX3_isClear 13 = .ok (.getfield 11, 3) := by decide +kernel
theorem dX3_isClear_16 : decode cX3_isClear 16 = .ok (.iload_n 2, 1) := by decide +kernel
theorem dX3_isClear_17 : decode cX3_isClear 17 = .ok (.aaload, 1) := by decide +kernel
theorem dX3_isClear_18 : decode cX3_isClear 18 = .ok (.iload_n 1, 1) := by decide +kernel
theorem dX3_isClear_19 : decode cX3_isClear 19 = .ok (.laload, 1) := by decide +kernel
theorem dX3_isClear_20 : decode cX3_isClear 20 = .ok (.lconst 0, 1) := by decide +kernel
theorem dX3_isClear_21 : decode cX3_isClear 21 = .ok (.lcmp, 1) := by decide +kernel
theorem dX3_isClear_22 : decode cX3_isClear 22 = .ok (.ifCond .ne 16, 3) := by decide +kernel
theorem dX3_isClear_25 : decode cX3_isClear 25 = .ok (.aload_n 0, 1) := by decide +kernel
theorem dX3_isClear_26 : decode cX3_isClear 26 = .ok (.getfield 11, 3) := by decide +kernel
theorem dX3_isClear_29 : decode cX3_isClear 29 = .ok (.iload_n 1, 1) := by decide +kernel
theorem dX3_isClear_30 : decode cX3_isClear 30 = .ok (.aaload, 1) := by decide +kernel
theorem dX3_isClear_31 : decode cX3_isClear 31 = .ok (.iload_n 2, 1) := by decide +kernel
theorem dX3_isClear_32 : decode cX3_isClear 32 = .ok (.laload, 1) := by decide +kernel
theorem dX3_isClear_33 : decode cX3_isClear 33 = .ok (.lconst 0, 1) := by decide +kernel
theorem dX3_isClear_34 : decode cX3_isClear 34 = .ok (.lcmp, 1) := by decide +kernel
theorem dX3_isClear_35 : decode cX3_isClear 35 = .ok (.ifCond .eq 5, 3) := by decide +kernel
theorem dX3_isClear_38 : decode cX3_isClear 38 = .ok (.iconst 0, 1) := by decide +kernel
theorem dX3_isClear_39 : decode cX3_isClear 39 = .ok (.ireturn, 1) := by decide +kernel
theorem dX3_isClear_40 : decode cX3_isClear 40 = .ok (.iinc 2 1, 3) := by decide +kernel
theorem dX3_isClear_43 : decode cX3_isClear 43 = .ok (.goto (-39), 3) := by decide +kernel
theorem dX3_isClear_46 : decode cX3_isClear 46 = .ok (.iconst 1, 1) := by decide +kernel
theorem dX3_isClear_47 : decode cX3_isClear 47 = .ok (.ireturn, 1) := by decide +kernel
set_option maxRecDepth 20000 in
theorem ggX3_bringLeast_X3_isLess : GoodIn wsX3_bringLeast wsX3_isLess := goodIn_r _ [6] (by decide +kernel) (by decide +kernel)
set_option maxRecDepth 20000 in
theorem gX3_bringLeast_X3_isLess : GoodIn wsX3_bringLeast (va_wsS RX3 85 yX3_isLess wsX3_isLess) := goodIn_app (goodIn_of _ (by decide +kernel)) ggX3_bringLeast_X3_isLess
theorem dX3_bringLeast_0 : decode cX3_bringLeast 0 = .ok (.iload_n 1, 1) := by decide +kernel
theorem dX3_bringLeast_1 : decode cX3_bringLeast 1 = .ok (.istore_n 2, 1) := by decide +kernel
theorem dX3_bringLeast_2 : decode cX3_bringLeast 2 = .ok (.iload_n 1, 1) := by decide +kernel
theorem dX3_bringLeast_3 : decode cX3_bringLeast 3 = .ok (.istore_n 3, 1) := by decide +kernel
theorem dX3_bringLeast_4 : decode cX3_bringLeast 4 = .ok (.iload_n 1, 1) := by decide +kernel
theorem dX3_bringLeast_5 : decode cX3_bringLeast 5 = .ok (.iconst 1, 1) := by decide +kernel
theorem dX3_bringLeast_6 : decode cX3_bringLeast 6 = .ok (.iadd, 1) := by decide +kernel
theorem dX3_bringLeast_7 : decode cX3_bringLeast 7 = .ok (.istore 4, 2) := by decide +kernel
theorem dX3_bringLeast_9 : decode cX3_bringLeast 9 = .ok (.iload 4, 2) := by decide +kernel
theorem dX3_bringLeast_11 : decode cX3_bringLeast 11 = .ok (.aload_n 0, 1) := by decide +kernel
theorem dX3_bringLeast_12 : decode cX3_bringLeast 12 = .ok (.getfield 20, 3) := by decide +kernel
theorem dX3_bringLeast_15 : decode cX3_bringLeast 15 = .ok (.if_icmp .ge 65, 3) := by decide +kernel
theorem dX3_bringLeast_18 : decode cX3_bringLeast 18 = .ok (.aload_n 0, 1) := by decide +kernel
theorem dX3_bringLeast_19 : decode cX3_bringLeast 19 = .ok (.getfield 11, 3) := by decide +kernel
theorem dX3_bringLeast_22 : decode cX3_bringLeast 22 = .ok (.iload 4, 2) := by decide +kernel
theorem dX3_bringLeast_24 : decode cX3_bringLeast 24 = .ok (.aaload, 1) := by decide +kernel
theorem dX3_bringLeast_25 : decode cX3_bringLeast 25 = .ok (.iload_n 1, 1) := by decide +kernel
theorem dX3_bringLeast_26 : decode cX3_bringLeast 26 = .ok (.laload, 1) := by decide +kernel
theorem dX3_bringLeast_27 : decode cX3_bringLeast 27 = .ok (.aload_n 0, 1) := by decide +kernel
theorem dX3_bringLeast_28 : decode cX3_bringLeast 28 = .ok (.getfield 11, 3) := by decide +kernel
theorem dX3_bringLeast_31 : decode cX3_bringLeast 31 = .ok (.iload_n 2, 1) := by decide +kernel
theorem dX3_bringLeast_32 : decode cX3_bringLeast 32 = .ok (.aaload, 1) := by decide +kernel
theorem dX3_bringLeast_33 : decode cX3_bringLeast 33 = .ok (.iload_n 3, 1) := by decide +kernel
theorem dX3_bringLeast_34 : decode cX3_bringLeast 34 = .ok (.laload, 1) := by decide +kernel
theorem dX3_bringLeast_35 : decode cX3_bringLeast 35 = .ok (.invokestatic 85, 3) := by decide +kernel
theorem dX3_bringLeast_38 : decode cX3_bringLeast 38 = .ok (.ifCond .eq 8, 3) := by decide +kernel
theorem dX3_bringLeast_41 : decode cX3_bringLeast 41 = .ok (.iload 4, 2) := by decide +kernel
theorem dX3_bringLeast_43 : decode cX3_bringLeast 43 = .ok (.istore_n 2, 1) := by decide +kernel
theorem dX3_bringLeast_44 : decode cX3_bringLeast 44 = .ok (.iload_n 1, 1) := by decide +kernel
theorem dX3_bringLeast_45 : decode cX3_bringLeast 45 = .ok (.istore_n 3, 1) := by decide +kernel
theorem dX3_bringLeast_46 : decode cX3_bringLeast 46 = .ok (.aload_n 0, 1) := by decide +kernel
theorem dX3_bringLeast_47 : decode cX3_bringLeast 47 = .ok (.getfield 11, 3) := by decide +kernel
theorem dX3_bringLeast_50 : decode cX3_bringLeast 50 = .ok (.iload_n 1, 1) := by decide +kernel
theorem dX3_bringLeast_51 : decode cX3_bringLeast 51 = .ok (.aaload, 1) := by decide +kernel
theorem dX3_bringLeast_52 : decode cX3_bringLeast 52 = .ok (.iload 4, 2) := by decide +kernel
theorem dX3_bringLeast_54 : decode cX3_bringLeast 54 = .ok (.laload, 1) := by decide +kernel
theorem dX3_bringLeast_55 : decode cX3_bringLeast 55 = .ok (.aload_n 0, 1) := by decide +kernel
theorem dX3_bringLeast_56 : decode cX3_bringLeast 56 = .ok (.getfield 11, 3) := by decide +kernel
theorem dX3_bringLeast_59 : decode cX3_bringLeast 59 = .ok (.iload_n 2, 1) := by decide +kernel
theorem dX3_bringLeast_60 : decode cX3_bringLeast 60 = .ok (.aaload, 1) := by decide +kernel
theorem dX3_bringLeast_61 : decode cX3_bringLeast 61 = .ok (.iload_n 3, 1) := by decide +kernel
theorem dX3_bringLeast_62 : decode cX3_bringLeast 62 = .ok (.laload, 1) := by decide +kernel
theorem dX3_bringLeast_63 : decode cX3_bringLeast 63 = .ok (.invokestatic 85, 3) := by decide +kernel
theorem dX3_bringLeast_66 : decode cX3_bringLeast 66 = .ok (.ifCond .eq 8, 3) := by decide +kernel
theorem dX3_bringLeast_69 : decode cX3_bringLeast 69 = .ok (.iload_n 1, 1) := by decide +kernel
theorem dX3_bringLeast_70 : decode cX3_bringLeast 70 = .ok (.istore_n 2, 1) := by decide +kernel
theorem dX3_bringLeast_71 : decode cX3_bringLeast 71 = .ok (.iload 4, 2) := by decide +kernel
theorem dX3_bringLeast_73 : decode cX3_bringLeast 73 = .ok (.istore_n 3, 1) := by decide +kernel
theorem dX3_bringLeast_74 : decode cX3_bringLeast 74 = .ok (.iinc 4 1, 3) := by decide +kernel
theorem dX3_bringLeast_77 : decode cX3_bringLeast 77 = .ok (.goto (-68), 3) := by decide +kernel
theorem dX3_bringLeast_80 : decode cX3_bringLeast 80 = .ok (.iload_n 1, 1) := by decide +kernel
theorem dX3_bringLeast_81 : decode cX3_bringLeast 81 = .ok (.istore 4, 2) := by decide +kernel
theorem dX3_bringLeast_83 : decode cX3_bringLeast 83 = .ok (.iload 4, 2) := by decide +kernel
theorem dX3_bringLeast_85 : decode cX3_bringLeast 85 = .ok (.aload_n 0, 1) := by decide +kernel
theorem dX3_bringLeast_86 : decode cX3_bringLeast 86 = .ok (.getfield 20, 3) := by decide +kernel
theorem dX3_bringLeast_89 : decode cX3_bringLeast 89 = .ok (.if_icmp .ge 49, 3) := by decide +kernel
theorem dX3_bringLeast_92 : decode cX3_bringLeast 92 = .ok (.aload_n 0, 1) := by decide +kernel
theorem dX3_bringLeast_93 : decode cX3_bringLeast 93 = .ok (.getfield 11, 3) := by decide +kernel
theorem dX3_bringLeast_96 : decode cX3_bringLeast 96 = .ok (.iload_n 1, 1) := by decide +kernel
theorem dX3_bringLeast_97 : decode cX3_bringLeast 97 = .ok (.aaload, 1) := by decide +kernel
theorem dX3_bringLeast_98 : decode cX3_bringLeast 98 = .ok (.iload 4, 2) := by decide +kernel
theorem dX3_bringLeast_100 : decode cX3_bringLeast 100 = .ok (.laload, 1) := by decide +kernel
theorem dX3_bringLeast_101 : decode cX3_bringLeast 101 = .ok (.lstore 5, 2) := by decide +kernel
theorem dX3_bringLeast_103 : decode cX3_bringLeast 103 = .ok (.aload_n 0, 1) := by decide +kernel
theorem dX3_bringLeast_104 : decode cX3_bringLeast 104 = .ok (.getfield 11, 3) := by decide +kernel
theorem dX3_bringLeast_107 : decode cX3_bringLeast 107 = .ok (.iload_n 1, 1) := by decide +kernel
theorem dX3_bringLeast_108 : decode cX3_bringLeast 108 = .ok (.aaload, 1) := by decide +kernel
theorem dX3_bringLeast_109 : decode cX3_bringLeast 109 = .ok (.iload 4, 2) := by decide +kernel
theorem dX3_bringLeast_111 : decode cX3_bringLeast 111 = .ok (.aload_n 0, 1) := by decide +kernel
theorem dX3_bringLeast_112 : decode cX3_bringLeast 112 = .ok (.getfield 11, 3) := by decide +kernel
theorem dX3_bringLeast_115 : decode cX3_bringLeast 115 = .ok (.iload_n 2, 1) := by decide +kernel
theorem dX3_bringLeast_116 : decode cX3_bringLeast 116 = .ok (.aaload, 1) := by decide +kernel
theorem dX3_bringLeast_117 : decode cX3_bringLeast 117 = .ok (.iload 4, 2) := by decide +kernel
theorem dX3_bringLeast_119 : decode cX3_bringLeast 119 = .ok (.laload, 1) := by decide +kernel
theorem dX3_bringLeast_120 : decode cX3_bringLeast 120 = .ok (.lastore, 1) := by decide +kernel
theorem dX3_bringLeast_121 : decode cX3_bringLeast 121 = .ok (.aload_n 0, 1) := by decide +kernel
theorem dX3_bringLeast_122 : decode cX3_bringLeast 122 = .ok (.getfield 11, 3) := by decide +kernel
theorem dX3_bringLeast_125 : decode cX3_bringLeast 125 = .ok (.iload_n 2, 1) := by decide +kernel
theorem dX3_bringLeast_126 : decode cX3_bringLeast 126 = .ok (.aaload, 1) := by decide +kernel
theorem dX3_bringLeast_127 : decode cX3_bringLeast 127 = .ok (.iload 4, 2) := by decide +kernel
theorem dX3_bringLeast_129 : decode cX3_bringLeast 129 = .ok (.lload 5, 2) := by decide +kernel
theorem dX3_bringLeast_131 : decode cX3_bringLeast 131 = .ok (.lastore, 1) := by decide +kernel
theorem dX3_bringLeast_132 : decode cX3_bringLeast 132 = .ok (.iinc 4 1, 3) := by decide +kernel
theorem dX3_bringLeast_135 : decode cX3_bringLeast 135 = .ok (.goto (-52), 3) := by decide +kernel
theorem dX3_bringLeast_138 : decode cX3_bringLeast 138 = .ok (.iload_n 1, 1) := by decide +kernel
theorem dX3_bringLeast_139 : decode cX3_bringLeast 139 = .ok (.istore 4, 2) := by decide +kernel
theorem dX3_bringLeast_141 : decode cX3_bringLeast 141 = .ok (.iload 4, 2) := by decide +kernel
theorem dX3_bringLeast_143 : decode cX3_bringLeast 143 = .ok (.aload_n 0, 1) := by decide +kernel
theorem dX3_bringLeast_144 : decode cX3_bringLeast 144 = .ok (.getfield 20, 3) := by decide +kernel
theorem dX3_bringLeast_147 : decode cX3_bringLeast 147 = .ok (.if_icmp .ge 49, 3) := by decide +kernel
theorem dX3_bringLeast_150 : decode cX3_bringLeast 150 = .ok (.aload_n 0, 1) := by decide +kernel
theorem dX3_bringLeast_151 : decode cX3_bringLeast 151 = .ok (.getfield 11, 3) := by decide +kernel
theorem dX3_bringLeast_154 : decode cX3_bringLeast 154 = .ok (.iload 4, 2) := by decide +kernel
theorem dX3_bringLeast_156 : decode cX3_bringLeast 156 = .ok (.aaload, 1) := by decide +kernel
theorem dX3_bringLeast_157 : decode cX3_bringLeast 157 = .ok (.iload_n 1, 1) := by decide +kernel
theorem dX3_bringLeast_158 : decode cX3_bringLeast 158 = .ok (.laload, 1) := by decide +kernel
theorem dX3_bringLeast_159 : decode cX3_bringLeast 159 = .ok (.lstore 5, 2) := by decide +kernel
theorem dX3_bringLeast_161 : decode cX3_bringLeast 161 = .ok (.aload_n 0, 1) := by decide +kernel
theorem dX3_bringLeast_162 : decode cX3_bringLeast 162 = .ok (.getfield 11, 3) := by decide +kernel
theorem dX3_bringLeast_165 : decode cX3_bringLeast 165 = .ok (.iload 4, 2) := by decide +kernel
theorem dX3_bringLeast_167 : decode cX3_bringLeast 167 = .ok (.aaload, 1) := by decide +kernel
theorem dX3_bringLeast_168 : decode cX3_bringLeast 168 = .ok (.iload_n 1, 1) := by decide +kernel
theorem dX3_bringLeast_169 : decode cX3_bringLeast 169 = .ok (.aload_n 0, 1) := by decide +kernel
theorem dX3_bringLeast_170 : decode cX3_bringLeast 170 = .ok (.getfield 11, 3) := by decide +kernel
theorem dX3_bringLeast_173 : decode cX3_bringLeast 173 = .ok (.iload 4, 2) := by decide +kernel
theorem dX3_bringLeast_175 : decode cX3_bringLeast 175 = .ok (.aaload, 1) := by decide +kernel
theorem dX3_bringLeast_176 : decode cX3_bringLeast 176 = .ok (.iload_n 3, 1) := by decide +kernel
theorem dX3_bringLeast_177 : decode cX3_bringLeast 177 = .ok (.laload, 1) := by decide +kernel
theorem dX3_bringLeast_178 : decode cX3_bringLeast 178 = .ok (.lastore, 1) := by decide +kernel
theorem dX3_bringLeast_179 : decode cX3_bringLeast 179 = .ok (.aload_n 0, 1) := by decide +kernel
theorem dX3_bringLeast_180 : decode cX3_bringLeast 180 = .ok (.getfield 11, 3) := by decide +kernel
theorem dX3_bringLeast_183 : decode cX3_bringLeast 183 = .ok (.iload 4, 2) := by decide +kernel
theorem dX3_bringLeast_185 : decode cX3_bringLeast 185 = .ok (.aaload, 1) := by decide +kernel
theorem dX3_bringLeast_186 : decode cX3_bringLeast 186 = .ok (.iload_n 3, 1) := by decide +kernel
theorem dX3_bringLeast_187 : decode cX3_bringLeast 187 = .ok (.lload 5, 2) := by decide +kernel
theorem dX3_bringLeast_189 : decode cX3_bringLeast 189 = .ok (.lastore, 1) := by decide +kernel
theorem dX3_bringLeast_190 : decode cX3_bringLeast 190 = .ok (.iinc 4 1, 3) := by decide +kernel
theorem dX3_bringLeast_193 : decode cX3_bringLeast 193 = .ok (.goto (-52), 3) := by decide +kernel
theorem dX3_bringLeast_196 : decode cX3_bringLeast 196 = .ok (.return_, 1) := by decide +kernel
theorem dX3_isLess_0 : decode cX3_isLess 0 = .ok (.lload_n 0, 1) := by decide +kernel
theorem dX3_isLess_1 : decode cX3_isLess 1 = .ok (.lconst 0, 1) := by decide +kernel
theorem dX3_isLess_2 : decode cX3_isLess 2 = .ok (.lcmp, 1) := by decide +kernel
theorem dX3_isLess_3 : decode cX3_isLess 3 = .ok (.ifCond .eq 19, 3) := by decide +kernel
theorem dX3_isLess_6 : decode cX3_isLess 6 = .ok (.lload_n 2, 1) := by decide +kernel
theorem dX3_isLess_7 : decode cX3_isLess 7 = .ok (.lconst 0, 1) := by decide +kernel
theorem dX3_isLess_8 : decode cX3_isLess 8 = .ok (.lcmp, 1) := by decide +kernel
theorem dX3_isLess_9 : decode cX3_isLess 9 = .ok (.ifCond .eq 9, 3) := by decide +kernel
theorem dX3_isLess_12 : decode cX3_isLess 12 = .ok (.lload_n 0, 1) := by decide +kernel
theorem dX3_isLess_13 : decode cX3_isLess 13 = .ok (.lload_n 2, 1) := by decide +kernel
theorem dX3_isLess_14 : decode cX3_isLess 14 = .ok (.lcmp, 1) := by decide +kernel
theorem dX3_isLess_15 : decode cX3_isLess 15 = .ok (.ifCond .ge 7, 3) := by decide +kernel
theorem dX3_isLess_18 : decode cX3_isLess 18 = .ok (.iconst 1, 1) := by decide +kernel
theorem dX3_isLess_19 : decode cX3_isLess 19 = .ok (.goto 4, 3) := by decide +kernel
theorem dX3_isLess_22 : decode cX3_isLess 22 = .ok (.iconst 0, 1) := by decide +kernel
theorem dX3_isLess_23 : decode cX3_isLess 23 = .ok (.ireturn, 1) := by decide +kernel
set_option maxRecDepth 20000 in
theorem ggX3_lowerRows_X3_counted : GoodIn wsX3_lowerRows wsX3_counted := goodIn_r _ [7, 8, 9, 10, 11, 12, 13, 14, 15, 16, 17] (by decide +kernel) (by decide +kernel)
set_option maxRecDepth 20000 in
theorem gX3_lowerRows_X3_counted : GoodIn wsX3_lowerRows (wsV RX3 64 RX3 yX3_counted wsX3_counted) := goodIn_app (goodIn_of _ (by decide +kernel)) ggX3_lowerRows_X3_counted
theorem dX3_lowerRows_0 : decode cX3_lowerRows 0 = .ok (.iload_n 1, 1) := by decide +kernel
theorem dX3_lowerRows_1 : decode cX3_lowerRows 1 = .ok (.iconst 1, 1) := by decide +kernel
theorem dX3_lowerRows_2 : decode cX3_lowerRows 2 = .ok (.iadd, 1) := by decide +kernel
theorem dX3_lowerRows_3 : decode cX3_lowerRows 3 = .ok (.istore 4, 2) := by decide +kernel
theorem dX3_lowerRows_5 : decode cX3_lowerRows 5 = .ok (.iload 4, 2) := by decide +kernel
theorem dX3_lowerRows_7 : decode cX3_lowerRows 7 = .ok (.aload_n 0, 1) := by decide +kernel
theorem dX3_lowerRows_8 : decode cX3_lowerRows 8 = .ok (.getfield 20, 3) := by decide +kernel
theorem dX3_lowerRows_11 : decode cX3_lowerRows 11 = .ok (.if_icmp .ge 83, 3) := by decide +kernel
theorem dX3_lowerRows_14 : decode cX3_lowerRows 14 = .ok (.lload_n 2, 1) := by decide +kernel
theorem dX3_lowerRows_15 : decode cX3_lowerRows 15 = .ok (.lconst 0, 1) := by decide +kernel
theorem dX3_lowerRows_16 : decode cX3_lowerRows 16 = .ok (.lcmp, 1) := by decide +kernel
theorem dX3_lowerRows_17 : decode cX3_lowerRows 17 = .ok (.ifCond .le 77, 3) := by decide +kernel
theorem dX3_lowerRows_20 : decode cX3_lowerRows 20 = .ok (.aload_n 0, 1) := by decide +kernel
theorem dX3_lowerRows_21 : decode cX3_lowerRows 21 = .ok (.getfield 11, 3) := by decide +kernel
theorem dX3_lowerRows_24 : decode cX3_lowerRows 24 = .ok (.iload 4, 2) := by decide +kernel
theorem dX3_lowerRows_26 : decode cX3_lowerRows 26 = .ok (.aaload, 1) := by decide +kernel
theorem dX3_lowerRows_27 : decode cX3_lowerRows 27 = .ok (.iload_n 1, 1) := by decide +kernel
theorem dX3_lowerRows_28 : decode cX3_lowerRows 28 = .ok (.laload, 1) := by decide +kernel
theorem dX3_lowerRows_29 : decode cX3_lowerRows 29 = .ok (.lload_n 2, 1) := by decide +kernel
theorem dX3_lowerRows_30 : decode cX3_lowerRows 30 = .ok (.ldiv, 1) := by decide +kernel
theorem dX3_lowerRows_31 : decode cX3_lowerRows 31 = .ok (.lstore 5, 2) := by decide +kernel
theorem dX3_lowerRows_33 : decode cX3_lowerRows 33 = .ok (.iload_n 1, 1) := by decide +kernel
theorem dX3_lowerRows_34 : decode cX3_lowerRows 34 = .ok (.istore 7, 2) := by decide +kernel
theorem dX3_lowerRows_36 : decode cX3_lowerRows 36 = .ok (.iload 7, 2) := by decide +kernel
theorem dX3_lowerRows_38 : decode cX3_lowerRows 38 = .ok (.aload_n 0, 1) := by decide +kernel
theorem dX3_lowerRows_39 : decode cX3_lowerRows 39 = .ok (.getfield 20, 3) := by decide +kernel
theorem dX3_lowerRows_42 : decode cX3_lowerRows 42 = .ok (.if_icmp .ge 46, 3) := by decide +kernel
theorem dX3_lowerRows_45 : decode cX3_lowerRows 45 = .ok (.aload_n 0, 1) := by decide +kernel
theorem dX3_lowerRows_46 : decode cX3_lowerRows 46 = .ok (.getfield 11, 3) := by decide +kernel
theorem dX3_lowerRows_49 : decode cX3_lowerRows 49 = .ok (.iload 4, 2) := by decide +kernel
theorem dX3_lowerRows_51 : decode cX3_lowerRows 51 = .ok (.aaload, 1) := by decide +kernel
theorem dX3_lowerRows_52 : decode cX3_lowerRows 52 = .ok (.iload 7, 2) := by decide +kernel
theorem dX3_lowerRows_54 : decode cX3_lowerRows 54 = .ok (.aload_n 0, 1) := by decide +kernel
theorem dX3_lowerRows_55 : decode cX3_lowerRows 55 = .ok (.aload_n 0, 1) := by decide +kernel
theorem dX3_lowerRows_56 : decode cX3_lowerRows 56 = .ok (.getfield 11, 3) := by decide +kernel
theorem dX3_lowerRows_59 : decode cX3_lowerRows 59 = .ok (.iload 4, 2) := by decide +kernel
theorem dX3_lowerRows_61 : decode cX3_lowerRows 61 = .ok (.aaload, 1) := by decide +kernel
theorem dX3_lowerRows_62 : decode cX3_lowerRows 62 = .ok (.iload 7, 2) := by decide +kernel
theorem dX3_lowerRows_64 : decode cX3_lowerRows 64 = .ok (.laload, 1) := by decide +kernel
theorem dX3_lowerRows_65 : decode cX3_lowerRows 65 = .ok (.lload 5, 2) := by decide +kernel
theorem dX3_lowerRows_67 : decode cX3_lowerRows 67 = .ok (.aload_n 0, 1) := by decide +kernel
theorem dX3_lowerRows_68 : decode cX3_lowerRows 68 = .ok (.getfield 11, 3) := by decide +kernel
theorem dX3_lowerRows_71 : decode cX3_lowerRows 71 = .ok (.iload_n 1, 1) := by decide +kernel
theorem dX3_lowerRows_72 : decode cX3_lowerRows 72 = .ok (.aaload, 1) := by decide +kernel
theorem dX3_lowerRows_73 : decode cX3_lowerRows 73 = .ok (.iload 7, 2) := by decide +kernel
theorem dX3_lowerRows_75 : decode cX3_lowerRows 75 = .ok (.laload, 1) := by decide +kernel
theorem dX3_lowerRows_76 : decode cX3_lowerRows 76 = .ok (.lmul, 1) := by decide +kernel
theorem dX3_lowerRows_77 : decode cX3_lowerRows 77 = .ok (.lsub, 1) := by decide +kernel
theorem dX3_lowerRows_78 : decode cX3_lowerRows 78 = .ok (.invokevirtual 64, 3) := by decide +kernel
theorem dX3_lowerRows_81 : decode cX3_lowerRows 81 = .ok (.lastore, 1) := by decide +kernel
theorem dX3_lowerRows_82 : decode cX3_lowerRows 82 = .ok (.iinc 7 1, 3) := by decide +kernel
theorem dX3_lowerRows_85 : decode cX3_lowerRows 85 = .ok (.goto (-49), 3) := by decide +kernel
theorem dX3_lowerRows_88 : decode cX3_lowerRows 88 = .ok (.iinc 4 1, 3) := by decide +kernel
theorem dX3_lowerRows_91 : decode cX3_lowerRows 91 = .ok (.goto (-86), 3) := by decide +kernel
theorem dX3_lowerRows_94 : decode cX3_lowerRows 94 = .ok (.return_, 1) := by decide +kernel
set_option maxRecDepth 20000 in
theorem ggX3_lowerColumns_X3_counted : GoodIn wsX3_lowerColumns wsX3_counted := goodIn_r _ [7, 8, 9, 10, 11, 12, 13, 14, 15, 16, 17] (by decide +kernel) (by decide +kernel)
set_option maxRecDepth 20000 in
theorem gX3_lowerColumns_X3_counted : GoodIn wsX3_lowerColumns (wsV RX3 64 RX3 yX3_counted wsX3_counted) := goodIn_app (goodIn_of _ (by decide +kernel)) ggX3_lowerColumns_X3_counted
theorem dX3_lowerColumns_0 : decode cX3_lowerColumns 0 = .ok (.iload_n 1, 1) := by decide +kernel
theorem dX3_lowerColumns_1 : decode cX3_lowerColumns 1 = .ok (.iconst 1, 1) := by decide +kernel
theorem dX3_lowerColumns_2 : decode cX3_lowerColumns 2 = .ok (.iadd, 1) := by decide +kernel
theorem dX3_lowerColumns_3 : decode cX3_lowerColumns 3 = .ok (.istore 4, 2) := by decide +kernel
theorem dX3_lowerColumns_5 : decode cX3_lowerColumns 5 = .ok (.iload 4, 2) := by decide +kernel
theorem dX3_lowerColumns_7 : decode cX3_lowerColumns 7 = .ok (.aload_n 0, 1) := by decide +kernel
theorem dX3_lowerColumns_8 : decode cX3_lowerColumns 8 = .ok (.getfield 20, 3) := by decide +kernel
theorem dX3_lowerColumns_11 : decode cX3_lowerColumns 11 = .ok (.if_icmp .ge 83, 3) := by decide +kernel
theorem dX3_lowerColumns_14 : decode cX3_lowerColumns 14 = .ok (.lload_n 2, 1) := by decide +kernel
theorem dX3_lowerColumns_15 : decode cX3_lowerColumns 15 = .ok (.lconst 0, 1) := by decide +kernel
theorem dX3_lowerColumns_16 : decode cX3_lowerColumns 16 = .ok (.lcmp, 1) := by decide +kernel
theorem dX3_lowerColumns_17 : decode cX3_lowerColumns 17 = .ok (.ifCond .le 77, 3) := by decide +kernel
theorem dX3_lowerColumns_20 : decode cX3_lowerColumns 20 = .ok (.aload_n 0, 1) := by decide +kernel
theorem dX3_lowerColumns_21 : decode cX3_lowerColumns 21 = .ok (.getfield 11, 3) := by decide +kernel
theorem dX3_lowerColumns_24 : decode cX3_lowerColumns 24 = .ok (.iload_n 1, 1) := by decide +kernel
theorem dX3_lowerColumns_25 : decode cX3_lowerColumns 25 = .ok (.aaload, 1) := by decide +kernel
theorem dX3_lowerColumns_26 : decode cX3_lowerColumns 26 = .ok (.iload 4, 2) := by decide +kernel
theorem dX3_lowerColumns_28 : decode cX3_lowerColumns 28 = .ok (.laload, 1) := by decide +kernel
theorem dX3_lowerColumns_29 : decode cX3_lowerColumns 29 = .ok (.lload_n 2, 1) := by decide +kernel
theorem dX3_lowerColumns_30 : decode cX3_lowerColumns 30 = .ok (.ldiv, 1) := by decide +kernel
theorem dX3_lowerColumns_31 : decode cX3_lowerColumns 31 = .ok (.lstore 5, 2) := by decide +kernel
theorem dX3_lowerColumns_33 : decode cX3_lowerColumns 33 = .ok (.iload_n 1, 1) := by decide +kernel
theorem dX3_lowerColumns_34 : decode cX3_lowerColumns 34 = .ok (.istore 7, 2) := by decide +kernel
theorem dX3_lowerColumns_36 : decode cX3_lowerColumns 36 = .ok (.iload 7, 2) := by decide +kernel
theorem dX3_lowerColumns_38 : decode cX3_lowerColumns 38 = .ok (.aload_n 0, 1) := by decide +kernel
theorem dX3_lowerColumns_39 : decode cX3_lowerColumns 39 = .ok (.getfield 20, 3) := by decide +kernel
theorem dX3_lowerColumns_42 : decode cX3_lowerColumns 42 = .ok (.if_icmp .ge 46, 3) := by decide +kernel
theorem dX3_lowerColumns_45 : decode cX3_lowerColumns 45 = .ok (.aload_n 0, 1) := by decide +kernel
theorem dX3_lowerColumns_46 : decode cX3_lowerColumns 46 = .ok (.getfield 11, 3) := by decide +kernel
theorem dX3_lowerColumns_49 : decode cX3_lowerColumns 49 = .ok (.iload 7, 2) := by decide +kernel
theorem dX3_lowerColumns_51 : decode cX3_lowerColumns 51 = .ok (.aaload, 1) := by decide +kernel
theorem dX3_lowerColumns_52 : decode cX3_lowerColumns 52 = .ok (.iload 4, 2) := by decide +kernel
theorem dX3_lowerColumns_54 : decode cX3_lowerColumns 54 = .ok (.aload_n 0, 1) := by decide +kernel
theorem dX3_lowerColumns_55 : decode cX3_lowerColumns 55 = .ok (.aload_n 0, 1) := by decide +kernel
theorem dX3_lowerColumns_56 : decode cX3_lowerColumns 56 = .ok (.getfield 11, 3) := by decide +kernel
theorem dX3_lowerColumns_59 : decode cX3_lowerColumns 59 = .ok (.iload 7, 2) := by decide +kernel
theorem dX3_lowerColumns_61 : decode cX3_lowerColumns 61 = .ok (.aaload, 1) := by decide +kernel
theorem dX3_lowerColumns_62 : decode cX3_lowerColumns 62 = .ok (.iload 4, 2) := by decide +kernel
theorem dX3_lowerColumns_64 : decode cX3_lowerColumns 64 = .ok (.laload, 1) := by decide +kernel
theorem dX3_lowerColumns_65 : decode cX3_lowerColumns 65 = .ok (.lload 5, 2) := by decide +kernel
theorem dX3_lowerColumns_67 : decode cX3_lowerColumns 67 = .ok (.aload_n 0, 1) := by decide +kernel
theorem dX3_lowerColumns_68 : decode cX3_lowerColumns 68 = .ok (.getfield 11, 3) := by decide +kernel
theorem dX3_lowerColumns_71 : decode cX3_lowerColumns 71 = .ok (.iload 7, 2) := by decide +kernel
theorem dX3_lowerColumns_73 : decode cX3_lowerColumns 73 = .ok (.aaload, 1) := by decide +kernel
theorem dX3_lowerColumns_74 : decode cX3_lowerColumns 74 = .ok (.iload_n 1, 1) := by decide +kernel
theorem dX3_lowerColumns_75 : decode cX3_lowerColumns 75 = .ok (.laload, 1) := by decide +kernel
theorem dX3_lowerColumns_76 : decode cX3_lowerColumns 76 = .ok (.lmul, 1) := by decide +kernel
theorem dX3_lowerColumns_77 : decode cX3_lowerColumns 77 = .ok (.lsub, 1) := by decide +kernel
theorem dX3_lowerColumns_78 : decode cX3_lowerColumns 78 = .ok (.invokevirtual 64, 3) := by decide +kernel
theorem dX3_lowerColumns_81 : decode cX3_lowerColumns 81 = .ok (.lastore, 1) := by decide +kernel
theorem dX3_lowerColumns_82 : decode cX3_lowerColumns 82 = .ok (.iinc 7 1, 3) := by decide +kernel
theorem dX3_lowerColumns_85 : decode cX3_lowerColumns 85 = .ok (.goto (-49), 3) := by decide +kernel
theorem dX3_lowerColumns_88 : decode cX3_lowerColumns 88 = .ok (.iinc 4 1, 3) := by decide +kernel
theorem dX3_lowerColumns_91 : decode cX3_lowerColumns 91 = .ok (.goto (-86), 3) := by decide +kernel
theorem dX3_lowerColumns_94 : decode cX3_lowerColumns 94 = .ok (.return_, 1) := by decide +kernel
set_option maxRecDepth 20000 in
theorem ggX3_makeChain_X5_commonDivisor : GoodIn wsX3_makeChain wsX5_commonDivisor := goodIn_r _ [5, 6, 7, 8, 9] (by decide +kernel) (by decide +kernel)
set_option maxRecDepth 20000 in
theorem gX3_makeChain_X5_commonDivisor_n50 : GoodIn wsX3_makeChain (wsX5_commonDivisor) := ggX3_makeChain_X5_commonDivisor
theorem dX3_makeChain_0 : decode cX3_makeChain 0 = .ok (.iconst 0, 1) := by decide +kernel
theorem dX3_makeChain_1 : decode cX3_makeChain 1 = .ok (.istore_n 1, 1) := by decide +kernel
theorem dX3_makeChain_2 : decode cX3_makeChain 2 = .ok (.iload_n 1, 1) := by decide +kernel
theorem dX3_makeChain_3 : decode cX3_makeChain 3 = .ok (.aload_n 0, 1) := by decide +kernel
theorem dX3_makeChain_4 : decode cX3_makeChain 4 = .ok (.getfield 20, 3) := by decide +kernel
theorem dX3_makeChain_7 : decode cX3_makeChain 7 = .ok (.if_icmp .ge 77, 3) := by decide +kernel
theorem dX3_makeChain_10 : decode cX3_makeChain 10 = .ok (.iload_n 1, 1) := by decide +kernel
theorem dX3_makeChain_11 : decode cX3_makeChain 11 = .ok (.iconst 1, 1) := by decide +kernel
theorem dX3_makeChain_12 : decode cX3_makeChain 12 = .ok (.iadd, 1) := by decide +kernel
theorem dX3_makeChain_13 : decode cX3_makeChain 13 = .ok (.istore_n 2, 1) := by decide +kernel
theorem dX3_makeChain_14 : decode cX3_makeChain 14 = .ok (.iload_n 2, 1) := by decide +kernel
theorem dX3_makeChain_15 : decode cX3_makeChain 15 = .ok (.aload_n 0, 1) := by decide +kernel
theorem dX3_makeChain_16 : decode cX3_makeChain 16 = .ok (.getfield 20, 3) := by decide +kernel
theorem dX3_makeChain_19 : decode cX3_makeChain 19 = .ok (.if_icmp .ge 59, 3) := by decide +kernel
theorem dX3_makeChain_22 : decode cX3_makeChain 22 = .ok (.aload_n 0, 1) := by decide +kernel
theorem dX3_makeChain_23 : decode cX3_makeChain 23 = .ok (.getfield 16, 3) := by decide +kernel
theorem dX3_makeChain_26 : decode cX3_makeChain 26 = .ok (.iload_n 1, 1) := by decide +kernel
theorem dX3_makeChain_27 : decode cX3_makeChain 27 = .ok (.laload, 1) := by decide +kernel
theorem dX3_makeChain_28 : decode cX3_makeChain 28 = .ok (.aload_n 0, 1) := by decide +kernel
theorem dX3_makeChain_29 : decode cX3_makeChain 29 = .ok (.getfield 16, 3) := by decide +kernel
theorem dX3_makeChain_32 : decode cX3_makeChain 32 = .ok (.iload_n 2, 1) := by decide +kernel
theorem dX3_makeChain_33 : decode cX3_makeChain 33 = .ok (.laload, 1) := by decide +kernel
theorem dX3_makeChain_34 : decode cX3_makeChain 34 = .ok (.invokestatic 50, 3) := by decide +kernel
theorem dX3_makeChain_37 : decode cX3_makeChain 37 = .ok (.lstore_n 3, 1) := by decide +kernel
theorem dX3_makeChain_38 : decode cX3_makeChain 38 = .ok (.lload_n 3, 1) := by decide +kernel
theorem dX3_makeChain_39 : decode cX3_makeChain 39 = .ok (.lconst 0, 1) := by decide +kernel
theorem dX3_makeChain_40 : decode cX3_makeChain 40 = .ok (.lcmp, 1) := by decide +kernel
theorem dX3_makeChain_41 : decode cX3_makeChain 41 = .ok (.ifCond .le 31, 3) := by decide +kernel
theorem dX3_makeChain_44 : decode cX3_makeChain 44 = .ok (.aload_n 0, 1) := by decide +kernel
theorem dX3_makeChain_45 : decode cX3_makeChain 45 = .ok (.getfield 16, 3) := by decide +kernel
theorem dX3_makeChain_48 : decode cX3_makeChain 48 = .ok (.iload_n 2, 1) := by decide +kernel
theorem dX3_makeChain_49 : decode cX3_makeChain 49 = .ok (.aload_n 0, 1) := by decide +kernel
theorem dX3_makeChain_50 : decode cX3_makeChain 50 = .ok (.getfield 16, 3) := by decide +kernel
theorem dX3_makeChain_53 : decode cX3_makeChain 53 = .ok (.iload_n 1, 1) := by decide +kernel
theorem dX3_makeChain_54 : decode cX3_makeChain 54 = .ok (.laload, 1) := by decide +kernel
theorem dX3_makeChain_55 : decode cX3_makeChain 55 = .ok (.lload_n 3, 1) := by decide +kernel
theorem dX3_makeChain_56 : decode cX3_makeChain 56 = .ok (.ldiv, 1) := by decide +kernel
theorem dX3_makeChain_57 : decode cX3_makeChain 57 = .ok (.aload_n 0, 1) := by decide +kernel
theorem dX3_makeChain_58 : decode cX3_makeChain 58 = .ok (.getfield 16, 3) := by decide +kernel
theorem dX3_makeChain_61 : decode cX3_makeChain 61 = .ok (.iload_n 2, 1) := by decide +kernel
theorem dX3_makeChain_62 : decode cX3_makeChain 62 = .ok (.laload, 1) := by decide +kernel
theorem dX3_makeChain_63 : decode cX3_makeChain 63 = .ok (.lmul, 1) := by decide +kernel
theorem dX3_makeChain_64 : decode cX3_makeChain 64 = .ok (.lastore, 1) := by decide +kernel
theorem dX3_makeChain_65 : decode cX3_makeChain 65 = .ok (.aload_n 0, 1) := by decide +kernel
theorem dX3_makeChain_66 : decode cX3_makeChain 66 = .ok (.getfield 16, 3) := by decide +kernel
theorem dX3_makeChain_69 : decode cX3_makeChain 69 = .ok (.iload_n 1, 1) := by decide +kernel
theorem dX3_makeChain_70 : decode cX3_makeChain 70 = .ok (.lload_n 3, 1) := by decide +kernel
theorem dX3_makeChain_71 : decode cX3_makeChain 71 = .ok (.lastore, 1) := by decide +kernel
theorem dX3_makeChain_72 : decode cX3_makeChain 72 = .ok (.iinc 2 1, 3) := by decide +kernel
theorem dX3_makeChain_75 : decode cX3_makeChain 75 = .ok (.goto (-61), 3) := by decide +kernel
theorem dX3_makeChain_78 : decode cX3_makeChain 78 = .ok (.iinc 1 1, 3) := by decide +kernel
theorem dX3_makeChain_81 : decode cX3_makeChain 81 = .ok (.goto (-79), 3) := by decide +kernel
theorem dX3_makeChain_84 : decode cX3_makeChain 84 = .ok (.return_, 1) := by decide +kernel

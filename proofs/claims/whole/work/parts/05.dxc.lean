theorem dX5_init_0 : decode cX5_init 0 = .ok (.aload_n 0, 1) := by decide +kernel
theorem dX5_init_1 : decode cX5_init 1 = .ok (.invokespecial 1, 3) := by decide +kernel
theorem dX5_init_4 : decode cX5_init 4 = .ok (.aload_n 0, 1) := by decide +kernel
theorem dX5_init_5 : decode cX5_init 5 = .ok (.bipush 6, 2) := by decide +kernel
theorem dX5_init_7 : decode cX5_init 7 = .ok (.anewarray 9, 3) := by decide +kernel
theorem dX5_init_10 : decode cX5_init 10 = .ok (.putfield 11, 3) := by decide +kernel
theorem dX5_init_13 : decode cX5_init 13 = .ok (.aload_n 0, 1) := by decide +kernel
theorem dX5_init_14 : decode cX5_init 14 = .ok (.bipush 20, 2) := by decide +kernel
theorem dX5_init_16 : decode cX5_init 16 = .ok (.anewarray 15, 3) := by decide +kernel
theorem dX5_init_19 : decode cX5_init 19 = .ok (.putfield 17, 3) := by decide +kernel
theorem dX5_init_22 : decode cX5_init 22 = .ok (.aload_n 0, 1) := by decide +kernel
theorem dX5_init_23 : decode cX5_init 23 = .ok (.iconst 0, 1) := by decide +kernel
theorem dX5_init_24 : decode cX5_init 24 = .ok (.putfield 21, 3) := by decide +kernel
theorem dX5_init_27 : decode cX5_init 27 = .ok (.aload_n 0, 1) := by decide +kernel
theorem dX5_init_28 : decode cX5_init 28 = .ok (.iconst 0, 1) := by decide +kernel
theorem dX5_init_29 : decode cX5_init 29 = .ok (.putfield 25, 3) := by decide +kernel
theorem dX5_init_32 : decode cX5_init 32 = .ok (.aload_n 0, 1) := by decide +kernel
theorem dX5_init_33 : decode cX5_init 33 = .ok (.new 28, 3) := by decide +kernel
theorem dX5_init_36 : decode cX5_init 36 = .ok (.dup, 1) := by decide +kernel
theorem dX5_init_37 : decode cX5_init 37 = .ok (.invokespecial 30, 3) := by decide +kernel
theorem dX5_init_40 : decode cX5_init 40 = .ok (.putfield 31, 3) := by decide +kernel
theorem dX5_init_43 : decode cX5_init 43 = .ok (.aload_n 0, 1) := by decide +kernel
theorem dX5_init_44 : decode cX5_init 44 = .ok (.new 35, 3) := by decide +kernel
theorem dX5_init_47 : decode cX5_init 47 = .ok (.dup, 1) := by decide +kernel
theorem dX5_init_48 : decode cX5_init 48 = .ok (.invokespecial 37, 3) := by decide +kernel
theorem dX5_init_51 : decode cX5_init 51 = .ok (.putfield 38, 3) := by decide +kernel
theorem dX5_init_54 : decode cX5_init 54 = .ok (.aload_n 0, 1) := by decide +kernel
theorem dX5_init_55 : decode cX5_init 55 = .ok (.new 42, 3) := by decide +kernel
theorem dX5_init_58 : decode cX5_init 58 = .ok (.dup, 1) := by decide +kernel
theorem dX5_init_59 : decode cX5_init 59 = .ok (.invokespecial 44, 3) := by decide +kernel
theorem dX5_init_62 : decode cX5_init 62 = .ok (.putfield 45, 3) := by decide +kernel
theorem dX5_init_65 : decode cX5_init 65 = .ok (.return_, 1) := by decide +kernel
set_option maxRecDepth 20000 in
theorem ggX5_yard_X4_init : GoodIn wsX5_yard wsX4_init := goodIn_r _ [8, 9, 10, 11, 12, 13, 14, 15, 16, 17, 25, 26, 27, 28] (by decide +kernel) (by decide +kernel)
set_option maxRecDepth 20000 in
theorem gX5_yard_X4_init : GoodIn wsX5_yard (wsX4_init) := ggX5_yard_X4_init
theorem dX5_yard_0 : decode cX5_yard 0 = .ok (.aload_n 0, 1) := by decide +kernel
theorem dX5_yard_1 : decode cX5_yard 1 = .ok (.getfield 21, 3) := by decide +kernel
theorem dX5_yard_4 : decode cX5_yard 4 = .ok (.bipush 6, 2) := by decide +kernel
theorem dX5_yard_6 : decode cX5_yard 6 = .ok (.if_icmp .ge 14, 3) := by decide +kernel
theorem dX5_yard_9 : decode cX5_yard 9 = .ok (.iload_n 1, 1) := by decide +kernel
theorem dX5_yard_10 : decode cX5_yard 10 = .ok (.iconst 2, 1) := by decide +kernel
theorem dX5_yard_11 : decode cX5_yard 11 = .ok (.if_icmp .lt 9, 3) := by decide +kernel
theorem dX5_yard_14 : decode cX5_yard 14 = .ok (.iload_n 1, 1) := by decide +kernel
theorem dX5_yard_15 : decode cX5_yard 15 = .ok (.bipush 8, 2) := by decide +kernel
theorem dX5_yard_17 : decode cX5_yard 17 = .ok (.if_icmp .le 5, 3) := by decide +kernel
theorem dX5_yard_20 : decode cX5_yard 20 = .ok (.iconst (-1), 1) := by decide +kernel
theorem dX5_yard_21 : decode cX5_yard 21 = .ok (.ireturn, 1) := by decide +kernel
theorem dX5_yard_22 : decode cX5_yard 22 = .ok (.aload_n 0, 1) := by decide +kernel
theorem dX5_yard_23 : decode cX5_yard 23 = .ok (.getfield 11, 3) := by decide +kernel
theorem dX5_yard_26 : decode cX5_yard 26 = .ok (.aload_n 0, 1) := by decide +kernel
theorem dX5_yard_27 : decode cX5_yard 27 = .ok (.getfield 21, 3) := by decide +kernel
theorem dX5_yard_30 : decode cX5_yard 30 = .ok (.new 9, 3) := by decide +kernel
theorem dX5_yard_33 : decode cX5_yard 33 = .ok (.dup, 1) := by decide +kernel
theorem dX5_yard_34 : decode cX5_yard 34 = .ok (.iload_n 1, 1) := by decide +kernel
theorem dX5_yard_35 : decode cX5_yard 35 = .ok (.invokespecial 49, 3) := by decide +kernel
theorem dX5_yard_38 : decode cX5_yard 38 = .ok (.aastore, 1) := by decide +kernel
theorem dX5_yard_39 : decode cX5_yard 39 = .ok (.aload_n 0, 1) := by decide +kernel
theorem dX5_yard_40 : decode cX5_yard 40 = .ok (.dup, 1) := by decide +kernel
theorem dX5_yard_41 : decode cX5_yard 41 = .ok (.getfield 21, 3) := by decide +kernel
theorem dX5_yard_44 : decode cX5_yard 44 = .ok (.iconst 1, 1) := by decide +kernel
theorem dX5_yard_45 : decode cX5_yard 45 = .ok (.iadd, 1) := by decide +kernel
theorem dX5_yard_46 : decode cX5_yard 46 = .ok (.putfield 21, 3) := by decide +kernel
theorem dX5_yard_49 : decode cX5_yard 49 = .ok (.aload_n 0, 1) := by decide +kernel
theorem dX5_yard_50 : decode cX5_yard 50 = .ok (.getfield 21, 3) := by decide +kernel
theorem dX5_yard_53 : decode cX5_yard 53 = .ok (.iconst 1, 1) := by decide +kernel
theorem dX5_yard_54 : decode cX5_yard 54 = .ok (.isub, 1) := by decide +kernel
theorem dX5_yard_55 : decode cX5_yard 55 = .ok (.ireturn, 1) := by decide +kernel
set_option maxRecDepth 20000 in
theorem ggX5_path_X5_yardNumbered : GoodIn wsX5_path wsX5_yardNumbered := goodIn_ca (goodIn_r _ [6, 7, 8, 9, 10, 26, 27, 28, 29, 30, 31, 32] (by decide +kernel) (by decide +kernel)) (goodIn_sub (fun _ h => List.mem_cons_of_mem _ (List.mem_append_right _ h)) (by decide +kernel))
set_option maxRecDepth 20000 in
theorem gX5_path_X5_yardNumbered : GoodIn wsX5_path (wsV RX5 52 RX5 yX5_yardNumbered wsX5_yardNumbered) := goodIn_app (goodIn_of _ (by decide +kernel)) ggX5_path_X5_yardNumbered
set_option maxRecDepth 20000 in
theorem ggX5_path_X5_requirePlace : GoodIn wsX5_path wsX5_requirePlace := goodIn_ca (goodIn_r _ [13, 7, 8, 14, 22, 23, 24, 25] (by decide +kernel) (by decide +kernel)) (goodIn_sub (fun _ h => List.mem_cons_of_mem _ (List.mem_append_right _ h)) (by decide +kernel))
set_option maxRecDepth 20000 in
theorem gX5_path_X5_requirePlace : GoodIn wsX5_path (va_wsS RX5 56 yX5_requirePlace wsX5_requirePlace) := goodIn_app (goodIn_of _ (by decide +kernel)) ggX5_path_X5_requirePlace
set_option maxRecDepth 20000 in
theorem ggX5_path_X4_lay : GoodIn wsX5_path wsX4_lay := goodIn_r _ [19, 20, 21, 22, 23, 24, 25] (by decide +kernel) (by decide +kernel)
set_option maxRecDepth 20000 in
theorem gX5_path_X4_lay : GoodIn wsX5_path (wsV RX5 64 RX4 yX4_lay wsX4_lay) := goodIn_app (goodIn_of _ (by decide +kernel)) ggX5_path_X4_lay
theorem dX5_path_0 : decode cX5_path 0 = .ok (.aload_n 0, 1) := by decide +kernel
theorem dX5_path_1 : decode cX5_path 1 = .ok (.iload_n 1, 1) := by decide +kernel
theorem dX5_path_2 : decode cX5_path 2 = .ok (.invokevirtual 52, 3) := by decide +kernel
theorem dX5_path_5 : decode cX5_path 5 = .ok (.astore 5, 2) := by decide +kernel
theorem dX5_path_7 : decode cX5_path 7 = .ok (.aload 5, 2) := by decide +kernel
theorem dX5_path_9 : decode cX5_path 9 = .ok (.iload_n 2, 1) := by decide +kernel
theorem dX5_path_10 : decode cX5_path 10 = .ok (.iconst 0, 1) := by decide +kernel
theorem dX5_path_11 : decode cX5_path 11 = .ok (.invokestatic 56, 3) := by decide +kernel
theorem dX5_path_14 : decode cX5_path 14 = .ok (.aload 5, 2) := by decide +kernel
theorem dX5_path_16 : decode cX5_path 16 = .ok (.iload_n 3, 1) := by decide +kernel
theorem dX5_path_17 : decode cX5_path 17 = .ok (.iconst 0, 1) := by decide +kernel
theorem dX5_path_18 : decode cX5_path 18 = .ok (.invokestatic 56, 3) := by decide +kernel
theorem dX5_path_21 : decode cX5_path 21 = .ok (.iload 4, 2) := by decide +kernel
theorem dX5_path_23 : decode cX5_path 23 = .ok (.ifCond .lt 22, 3) := by decide +kernel
theorem dX5_path_26 : decode cX5_path 26 = .ok (.iload 4, 2) := by decide +kernel
theorem dX5_path_28 : decode cX5_path 28 = .ok (.iconst 3, 1) := by decide +kernel
theorem dX5_path_29 : decode cX5_path 29 = .ok (.if_icmp .gt 16, 3) := by decide +kernel
theorem dX5_path_32 : decode cX5_path 32 = .ok (.iload_n 2, 1) := by decide +kernel
theorem dX5_path_33 : decode cX5_path 33 = .ok (.iload_n 3, 1) := by decide +kernel
theorem dX5_path_34 : decode cX5_path 34 = .ok (.if_icmp .eq 11, 3) := by decide +kernel
theorem dX5_path_37 : decode cX5_path 37 = .ok (.aload 5, 2) := by decide +kernel
theorem dX5_path_39 : decode cX5_path 39 = .ok (.getfield 60, 3) := by decide +kernel
theorem dX5_path_42 : decode cX5_path 42 = .ok (.ifCond .eq 5, 3) := by decide +kernel
theorem dX5_path_45 : decode cX5_path 45 = .ok (.iconst (-1), 1) := by decide +kernel
theorem dX5_path_46 : decode cX5_path 46 = .ok (.ireturn, 1) := by decide +kernel
theorem dX5_path_47 : decode cX5_path 47 = .ok (.aload 5, 2) := by decide +kernel
theorem dX5_path_49 : decode cX5_path 49 = .ok (.iload_n 2, 1) := by decide +kernel
theorem dX5_path_50 : decode cX5_path 50 = .ok (.iload_n 3, 1) := by decide +kernel
theorem dX5_path_51 : decode cX5_path 51 = .ok (.iload 4, 2) := by decide +kernel
theorem dX5_path_53 : decode cX5_path 53 = .ok (.invokevirtual 64, 3) := by decide +kernel
theorem dX5_path_56 : decode cX5_path 56 = .ok (.ireturn, 1) := by decide +kernel
set_option maxRecDepth 20000 in
theorem ggX5_degree_X5_yardNumbered : GoodIn wsX5_degree wsX5_yardNumbered := goodIn_ca (goodIn_r _ [6, 7, 8, 9, 10, 19, 20, 21, 22, 23, 24, 25] (by decide +kernel) (by decide +kernel)) (goodIn_sub (fun _ h => List.mem_cons_of_mem _ (List.mem_append_right _ h)) (by decide +kernel))
set_option maxRecDepth 20000 in
theorem gX5_degree_X5_yardNumbered : GoodIn wsX5_degree (wsV RX5 52 RX5 yX5_yardNumbered wsX5_yardNumbered) := goodIn_app (goodIn_of _ (by decide +kernel)) ggX5_degree_X5_yardNumbered
set_option maxRecDepth 20000 in
theorem ggX5_degree_X5_requirePlace : GoodIn wsX5_degree wsX5_requirePlace := goodIn_ca (goodIn_r _ [13, 7, 8, 14, 15, 16, 17, 18] (by decide +kernel) (by decide +kernel)) (goodIn_sub (fun _ h => List.mem_cons_of_mem _ (List.mem_append_right _ h)) (by decide +kernel))
set_option maxRecDepth 20000 in
theorem gX5_degree_X5_requirePlace : GoodIn wsX5_degree (va_wsS RX5 56 yX5_requirePlace wsX5_requirePlace) := goodIn_app (goodIn_of _ (by decide +kernel)) ggX5_degree_X5_requirePlace
theorem dX5_degree_0 : decode cX5_degree 0 = .ok (.aload_n 0, 1) := by decide +kernel
theorem dX5_degree_1 : decode cX5_degree 1 = .ok (.iload_n 1, 1) := by decide +kernel
theorem dX5_degree_2 : decode cX5_degree 2 = .ok (.invokevirtual 52, 3) := by decide +kernel
theorem dX5_degree_5 : decode cX5_degree 5 = .ok (.astore_n 3, 1) := by decide +kernel
theorem dX5_degree_6 : decode cX5_degree 6 = .ok (.aload_n 3, 1) := by decide +kernel
theorem dX5_degree_7 : decode cX5_degree 7 = .ok (.iload_n 2, 1) := by decide +kernel
theorem dX5_degree_8 : decode cX5_degree 8 = .ok (.iconst 0, 1) := by decide +kernel
theorem dX5_degree_9 : decode cX5_degree 9 = .ok (.invokestatic 56, 3) := by decide +kernel
theorem dX5_degree_12 : decode cX5_degree 12 = .ok (.aload_n 3, 1) := by decide +kernel
theorem dX5_degree_13 : decode cX5_degree 13 = .ok (.getfield 68, 3) := by decide +kernel
theorem dX5_degree_16 : decode cX5_degree 16 = .ok (.iload_n 2, 1) := by decide +kernel
theorem dX5_degree_17 : decode cX5_degree 17 = .ok (.iaload, 1) := by decide +kernel
theorem dX5_degree_18 : decode cX5_degree 18 = .ok (.ireturn, 1) := by decide +kernel
set_option maxRecDepth 20000 in
theorem ggX5_whole_X5_yardNumbered : GoodIn wsX5_whole wsX5_yardNumbered := goodIn_ca (goodIn_r _ [5, 6, 7, 8, 9, 21, 22, 23, 24, 25, 26, 27] (by decide +kernel) (by decide +kernel)) (goodIn_sub (fun _ h => List.mem_cons_of_mem _ (List.mem_append_right _ h)) (by decide +kernel))
set_option maxRecDepth 20000 in
theorem gX5_whole_X5_yardNumbered : GoodIn wsX5_whole (wsV RX5 52 RX5 yX5_yardNumbered wsX5_yardNumbered) := goodIn_app (goodIn_of _ (by decide +kernel)) ggX5_whole_X5_yardNumbered
set_option maxRecDepth 20000 in
theorem ggX5_whole_X4_isJoined : GoodIn wsX5_whole wsX4_isJoined := goodIn_r _ [14, 15, 16, 17, 18, 13, 19, 20, 28, 29, 30, 31] (by decide +kernel) (by decide +kernel)
set_option maxRecDepth 20000 in
theorem gX5_whole_X4_isJoined : GoodIn wsX5_whole (wsV RX5 72 RX4 yX4_isJoined wsX4_isJoined) := goodIn_app (goodIn_of _ (by decide +kernel)) ggX5_whole_X4_isJoined
theorem dX5_whole_0 : decode cX5_whole 0 = .ok (.aload_n 0, 1) := by decide +kernel
theorem dX5_whole_1 : decode cX5_whole 1 = .ok (.iload_n 1, 1) := by decide +kernel
theorem dX5_whole_2 : decode cX5_whole 2 = .ok (.invokevirtual 52, 3) := by decide +kernel
theorem dX5_whole_5 : decode cX5_whole 5 = .ok (.invokevirtual 72, 3) := by decide +kernel
theorem dX5_whole_8 : decode cX5_whole 8 = .ok (.ireturn, 1) := by decide +kernel
set_option maxRecDepth 20000 in
theorem ggX5_trees_X5_yardNumbered : GoodIn wsX5_trees wsX5_yardNumbered := goodIn_ca (goodIn_r _ [6, 7, 8, 9, 10, 44, 45, 46, 47, 48, 49, 50] (by decide +kernel) (by decide +kernel)) (goodIn_sub (fun _ h => List.mem_cons_of_mem _ (List.mem_append_right _ h)) (by decide +kernel))
set_option maxRecDepth 20000 in
theorem gX5_trees_X5_yardNumbered : GoodIn wsX5_trees (wsV RX5 52 RX5 yX5_yardNumbered wsX5_yardNumbered) := goodIn_app (goodIn_of _ (by decide +kernel)) ggX5_trees_X5_yardNumbered
set_option maxRecDepth 20000 in
theorem ggX5_trees_X2_howMany : GoodIn wsX5_trees wsX2_howMany := goodIn_r _ [15, 16, 17, 18, 19, 20, 21, 22, 23, 24, 25, 26, 27, 28, 29, 30, 14, 31, 32, 33, 34, 35, 36, 37, 38, 39, 40, 41, 42, 43, 51, 52, 53, 54, 55, 56, 57, 58, 59, 60] (by decide +kernel) (by decide +kernel)
set_option maxRecDepth 20000 in
theorem gX5_trees_X2_howMany : GoodIn wsX5_trees (wsV RX5 76 RX2 yX2_howMany wsX2_howMany) := goodIn_app (goodIn_of _ (by decide +kernel)) ggX5_trees_X2_howMany
theorem dX5_trees_0 : decode cX5_trees 0 = .ok (.aload_n 0, 1) := by decide +kernel
theorem dX5_trees_1 : decode cX5_trees 1 = .ok (.getfield 38, 3) := by decide +kernel
theorem dX5_trees_4 : decode cX5_trees 4 = .ok (.aload_n 0, 1) := by decide +kernel
theorem dX5_trees_5 : decode cX5_trees 5 = .ok (.iload_n 1, 1) := by decide +kernel
theorem dX5_trees_6 : decode cX5_trees 6 = .ok (.invokevirtual 52, 3) := by decide +kernel
theorem dX5_trees_9 : decode cX5_trees 9 = .ok (.invokevirtual 76, 3) := by decide +kernel
theorem dX5_trees_12 : decode cX5_trees 12 = .ok (.lreturn, 1) := by decide +kernel
set_option maxRecDepth 20000 in
theorem ggX5_part_X5_yardNumbered : GoodIn wsX5_part wsX5_yardNumbered := goodIn_ca (goodIn_r _ [11, 3, 4, 12, 13, 113, 114, 115, 116, 117, 118, 119] (by decide +kernel) (by decide +kernel)) (goodIn_sub (fun _ h => List.mem_cons_of_mem _ (List.mem_append_right _ h)) (by decide +kernel))
set_option maxRecDepth 20000 in
theorem gX5_part_X5_yardNumbered : GoodIn wsX5_part (wsV RX5 52 RX5 yX5_yardNumbered wsX5_yardNumbered) := goodIn_app (goodIn_of _ (by decide +kernel)) ggX5_part_X5_yardNumbered
set_option maxRecDepth 20000 in
theorem ggX5_part_X4_isJoined : GoodIn wsX5_part wsX4_isJoined := goodIn_r _ [18, 19, 20, 21, 22, 17, 23, 24, 120, 121, 122, 123] (by decide +kernel) (by decide +kernel)
set_option maxRecDepth 20000 in
theorem gX5_part_X4_isJoined : GoodIn wsX5_part (wsV RX5 72 RX4 yX4_isJoined wsX4_isJoined) := goodIn_app (goodIn_of _ (by decide +kernel)) ggX5_part_X4_isJoined
set_option maxRecDepth 20000 in
theorem ggX5_part_X2_howMany : GoodIn wsX5_part wsX2_howMany := goodIn_r _ [29, 30, 31, 15, 16, 17, 18, 19, 20, 21, 22, 23, 24, 32, 33, 34, 28, 35, 36, 37, 38, 39, 40, 41, 42, 43, 44, 45, 46, 47, 124, 125, 126, 127, 128, 129, 120, 121, 122, 123] (by decide +kernel) (by decide +kernel)
set_option maxRecDepth 20000 in
theorem gX5_part_X2_howMany : GoodIn wsX5_part (wsV RX5 76 RX2 yX2_howMany wsX2_howMany) := goodIn_app (goodIn_of _ (by decide +kernel)) ggX5_part_X2_howMany
set_option maxRecDepth 20000 in
theorem ggX5_part_X3_split : GoodIn wsX5_part wsX3_split := goodIn_r _ [52, 53, 54, 55, 56, 57, 58, 59, 60, 61, 62, 63, 64, 65, 51, 66, 67, 68, 69, 70, 71, 72, 73, 74, 75, 76, 77, 78, 79, 80, 81, 82, 83, 84, 85, 86, 87, 88, 89, 90, 91, 92, 93, 94, 95, 96, 97, 98, 99, 100, 10, 101, 102, 103, 104, 105, 106, 107, 108, 120, 121, 122, 123, 130, 131, 132, 133, 134] (by decide +kernel) (by decide +kernel)
set_option maxRecDepth 20000 in
theorem gX5_part_X3_split : GoodIn wsX5_part (wsV RX5 87 RX3 yX3_split wsX3_split) := goodIn_app (goodIn_of _ (by decide +kernel)) ggX5_part_X3_split
set_option maxRecDepth 20000 in
theorem ggX5_part_X3_told : GoodIn wsX5_part wsX3_told := goodIn_r _ [112, 62, 54, 60, 130, 131, 132, 133, 134] (by decide +kernel) (by decide +kernel)
set_option maxRecDepth 20000 in
theorem gX5_part_X3_told : GoodIn wsX5_part (wsV RX5 96 RX3 yX3_told wsX3_told) := goodIn_app (goodIn_of _ (by decide +kernel)) ggX5_part_X3_told
theorem dX5_part_0 : decode cX5_part 0 = .ok (.aload_n 0, 1) := by decide +kernel
theorem dX5_part_1 : decode cX5_part 1 = .ok (.iload_n 1, 1) := by decide +kernel
theorem dX5_part_2 : decode cX5_part 2 = .ok (.invokevirtual 52, 3) := by decide +kernel
theorem dX5_part_5 : decode cX5_part 5 = .ok (.astore_n 3, 1) := by decide +kernel
theorem dX5_part_6 : decode cX5_part 6 = .ok (.aload_n 3, 1) := by decide +kernel
theorem dX5_part_7 : decode cX5_part 7 = .ok (.invokevirtual 72, 3) := by decide +kernel
theorem dX5_part_10 : decode cX5_part 10 = .ok (.ifCond .ne 13, 3) := by decide +kernel
theorem dX5_part_13 : decode cX5_part 13 = .ok (.new 80, 3) := by decide +kernel
theorem dX5_part_16 : decode cX5_part 16 = .ok (.dup, 1) := by decide +kernel
theorem dX5_part_17 : decode cX5_part 17 = .ok (.ldc 82, 2) := by decide +kernel
theorem dX5_part_19 : decode cX5_part 19 = .ok (.invokespecial 84, 3) := by decide +kernel
theorem dX5_part_22 : decode cX5_part 22 = .ok (.athrow, 1) := by decide +kernel
theorem dX5_part_23 : decode cX5_part 23 = .ok (.aload_n 0, 1) := by decide +kernel
theorem dX5_part_24 : decode cX5_part 24 = .ok (.getfield 45, 3) := by decide +kernel
theorem dX5_part_27 : decode cX5_part 27 = .ok (.aload_n 3, 1) := by decide +kernel
theorem dX5_part_28 : decode cX5_part 28 = .ok (.aload_n 0, 1) := by decide +kernel
theorem dX5_part_29 : decode cX5_part 29 = .ok (.getfield 38, 3) := by decide +kernel
theorem dX5_part_32 : decode cX5_part 32 = .ok (.aload_n 3, 1) := by decide +kernel
theorem dX5_part_33 : decode cX5_part 33 = .ok (.invokevirtual 76, 3) := by decide +kernel
theorem dX5_part_36 : decode cX5_part 36 = .ok (.invokevirtual 87, 3) := by decide +kernel
theorem dX5_part_39 : decode cX5_part 39 = .ok (.istore 4, 2) := by decide +kernel
theorem dX5_part_41 : decode cX5_part 41 = .ok (.iload_n 2, 1) := by decide +kernel
theorem dX5_part_42 : decode cX5_part 42 = .ok (.iconst (-1), 1) := by decide +kernel
theorem dX5_part_43 : decode cX5_part 43 = .ok (.if_icmp .ne 7, 3) := by decide +kernel
theorem dX5_part_46 : decode cX5_part 46 = .ok (.iload 4, 2) := by decide +kernel
theorem dX5_part_48 : decode cX5_part 48 = .ok (.i2l, 1) := by decide +kernel
theorem dX5_part_49 : decode cX5_part 49 = .ok (.lreturn, 1) := by decide +kernel
theorem dX5_part_50 : decode cX5_part 50 = .ok (.iload_n 2, 1) := by decide +kernel
theorem dX5_part_51 : decode cX5_part 51 = .ok (.ifCond .lt 9, 3) := by decide +kernel
theorem dX5_part_54 : decode cX5_part 54 = .ok (.iload_n 2, 1) := by decide +kernel
theorem dX5_part_55 : decode cX5_part 55 = .ok (.iload 4, 2) := by decide +kernel
theorem dX5_part_57 : decode cX5_part 57 = .ok (.if_icmp .lt 13, 3) := by decide +kernel
theorem dX5_part_60 : decode cX5_part 60 = .ok (.new 91, 3) := by decide +kernel
theorem dX5_part_63 : decode cX5_part 63 = .ok (.dup, 1) := by decide +kernel
theorem dX5_part_64 : decode cX5_part 64 = .ok (.ldc 93, 2) := by decide +kernel
theorem dX5_part_66 : decode cX5_part 66 = .ok (.invokespecial 95, 3) := by decide +kernel
theorem dX5_part_69 : decode cX5_part 69 = .ok (.athrow, 1) := by decide +kernel
theorem dX5_part_70 : decode cX5_part 70 = .ok (.aload_n 0, 1) := by decide +kernel
theorem dX5_part_71 : decode cX5_part 71 = .ok (.getfield 45, 3) := by decide +kernel
theorem dX5_part_74 : decode cX5_part 74 = .ok (.iload_n 2, 1) := by decide +kernel
theorem dX5_part_75 : decode cX5_part 75 = .ok (.invokevirtual 96, 3) := by decide +kernel
theorem dX5_part_78 : decode cX5_part 78 = .ok (.lreturn, 1) := by decide +kernel
set_option maxRecDepth 20000 in
theorem ggX5_heap_X5_yardNumbered : GoodIn wsX5_heap wsX5_yardNumbered := goodIn_ca (goodIn_r _ [11, 12, 13, 14, 15, 37, 38, 39, 40, 41, 42, 43] (by decide +kernel) (by decide +kernel)) (goodIn_sub (fun _ h => List.mem_cons_of_mem _ (List.mem_append_right _ h)) (by decide +kernel))
set_option maxRecDepth 20000 in
theorem gX5_heap_X5_yardNumbered : GoodIn wsX5_heap (wsV RX5 52 RX5 yX5_yardNumbered wsX5_yardNumbered) := goodIn_app (goodIn_of _ (by decide +kernel)) ggX5_heap_X5_yardNumbered
set_option maxRecDepth 20000 in
theorem ggX5_heap_X4_isJoined : GoodIn wsX5_heap wsX4_isJoined := goodIn_r _ [20, 21, 22, 23, 24, 19, 25, 26, 44, 45, 46, 47] (by decide +kernel) (by decide +kernel)
set_option maxRecDepth 20000 in
theorem gX5_heap_X4_isJoined : GoodIn wsX5_heap (wsV RX5 72 RX4 yX4_isJoined wsX4_isJoined) := goodIn_app (goodIn_of _ (by decide +kernel)) ggX5_heap_X4_isJoined
set_option maxRecDepth 20000 in
theorem ggX5_heap_X1_init : GoodIn wsX5_heap wsX1_init := goodIn_r _ [29, 30, 31, 32, 33, 34, 35, 36, 48, 49, 50] (by decide +kernel) (by decide +kernel)
set_option maxRecDepth 20000 in
theorem gX5_heap_X1_init : GoodIn wsX5_heap (wsX1_init) := ggX5_heap_X1_init
theorem dX5_heap_0 : decode cX5_heap 0 = .ok (.aload_n 0, 1) := by decide +kernel
theorem dX5_heap_1 : decode cX5_heap 1 = .ok (.iload_n 1, 1) := by decide +kernel
theorem dX5_heap_2 : decode cX5_heap 2 = .ok (.invokevirtual 52, 3) := by decide +kernel
theorem dX5_heap_5 : decode cX5_heap 5 = .ok (.astore_n 2, 1) := by decide +kernel
theorem dX5_heap_6 : decode cX5_heap 6 = .ok (.aload_n 0, 1) := by decide +kernel
theorem dX5_heap_7 : decode cX5_heap 7 = .ok (.getfield 25, 3) := by decide +kernel
theorem dX5_heap_10 : decode cX5_heap 10 = .ok (.bipush 20, 2) := by decide +kernel
theorem dX5_heap_12 : decode cX5_heap 12 = .ok (.if_icmp .ge 10, 3) := by decide +kernel
theorem dX5_heap_15 : decode cX5_heap 15 = .ok (.aload_n 2, 1) := by decide +kernel
theorem dX5_heap_16 : decode cX5_heap 16 = .ok (.invokevirtual 72, 3) := by decide +kernel
theorem dX5_heap_19 : decode cX5_heap 19 = .ok (.ifCond .ne 5, 3) := by decide +kernel
theorem dX5_heap_22 : decode cX5_heap 22 = .ok (.iconst (-1), 1) := by decide +kernel
theorem dX5_heap_23 : decode cX5_heap 23 = .ok (.ireturn, 1) := by decide +kernel
theorem dX5_heap_24 : decode cX5_heap 24 = .ok (.aload_n 2, 1) := by decide +kernel
theorem dX5_heap_25 : decode cX5_heap 25 = .ok (.iconst 1, 1) := by decide +kernel
theorem dX5_heap_26 : decode cX5_heap 26 = .ok (.putfield 60, 3) := by decide +kernel
theorem dX5_heap_29 : decode cX5_heap 29 = .ok (.aload_n 0, 1) := by decide +kernel
theorem dX5_heap_30 : decode cX5_heap 30 = .ok (.getfield 17, 3) := by decide +kernel
theorem dX5_heap_33 : decode cX5_heap 33 = .ok (.aload_n 0, 1) := by decide +kernel
theorem dX5_heap_34 : decode cX5_heap 34 = .ok (.getfield 25, 3) := by decide +kernel
theorem dX5_heap_37 : decode cX5_heap 37 = .ok (.new 15, 3) := by decide +kernel
theorem dX5_heap_40 : decode cX5_heap 40 = .ok (.dup, 1) := by decide +kernel
theorem dX5_heap_41 : decode cX5_heap 41 = .ok (.aload_n 2, 1) := by decide +kernel
theorem dX5_heap_42 : decode cX5_heap 42 = .ok (.invokespecial 100, 3) := by decide +kernel
theorem dX5_heap_45 : decode cX5_heap 45 = .ok (.aastore, 1) := by decide +kernel
theorem dX5_heap_46 : decode cX5_heap 46 = .ok (.aload_n 0, 1) := by decide +kernel
theorem dX5_heap_47 : decode cX5_heap 47 = .ok (.dup, 1) := by decide +kernel
theorem dX5_heap_48 : decode cX5_heap 48 = .ok (.getfield 25, 3) := by decide +kernel
theorem dX5_heap_51 : decode cX5_heap 51 = .ok (.iconst 1, 1) := by decide +kernel
theorem dX5_heap_52 : decode cX5_heap 52 = .ok (.iadd, 1) := by decide +kernel
theorem dX5_heap_53 : decode cX5_heap 53 = .ok (.putfield 25, 3) := by decide +kernel
theorem dX5_heap_56 : decode cX5_heap 56 = .ok (.aload_n 0, 1) := by decide +kernel
theorem dX5_heap_57 : decode cX5_heap 57 = .ok (.getfield 25, 3) := by decide +kernel
theorem dX5_heap_60 : decode cX5_heap 60 = .ok (.iconst 1, 1) := by decide +kernel
theorem dX5_heap_61 : decode cX5_heap 61 = .ok (.isub, 1) := by decide +kernel
theorem dX5_heap_62 : decode cX5_heap 62 = .ok (.ireturn, 1) := by decide +kernel
set_option maxRecDepth 20000 in
theorem ggX5_set_X5_heapNumbered : GoodIn wsX5_set wsX5_heapNumbered := goodIn_ca (goodIn_r _ [10, 11, 12, 13, 14, 22, 23, 24, 25, 26, 27, 28] (by decide +kernel) (by decide +kernel)) (goodIn_sub (fun _ h => List.mem_cons_of_mem _ (List.mem_append_right _ h)) (by decide +kernel))
set_option maxRecDepth 20000 in
theorem gX5_set_X5_heapNumbered : GoodIn wsX5_set (wsV RX5 103 RX5 yX5_heapNumbered wsX5_heapNumbered) := goodIn_app (goodIn_of _ (by decide +kernel)) ggX5_set_X5_heapNumbered
set_option maxRecDepth 20000 in
theorem ggX5_set_X5_requirePlace : GoodIn wsX5_set wsX5_requirePlace := goodIn_ca (goodIn_r _ [17, 11, 12, 18, 29, 30, 31, 32] (by decide +kernel) (by decide +kernel)) (goodIn_sub (fun _ h => List.mem_cons_of_mem _ (List.mem_append_right _ h)) (by decide +kernel))
set_option maxRecDepth 20000 in
theorem gX5_set_X5_requirePlace : GoodIn wsX5_set (va_wsS RX5 56 yX5_requirePlace wsX5_requirePlace) := goodIn_app (goodIn_of _ (by decide +kernel)) ggX5_set_X5_requirePlace
theorem dX5_set_0 : decode cX5_set 0 = .ok (.aload_n 0, 1) := by decide +kernel
theorem dX5_set_1 : decode cX5_set 1 = .ok (.iload_n 1, 1) := by decide +kernel
theorem dX5_set_2 : decode cX5_set 2 = .ok (.invokevirtual 103, 3) := by decide +kernel
theorem dX5_set_5 : decode cX5_set 5 = .ok (.astore 4, 2) := by decide +kernel
theorem dX5_set_7 : decode cX5_set 7 = .ok (.aload 4, 2) := by decide +kernel
theorem dX5_set_9 : decode cX5_set 9 = .ok (.getfield 107, 3) := by decide +kernel
theorem dX5_set_12 : decode cX5_set 12 = .ok (.iload_n 2, 1) := by decide +kernel
theorem dX5_set_13 : decode cX5_set 13 = .ok (.iconst 1, 1) := by decide +kernel
theorem dX5_set_14 : decode cX5_set 14 = .ok (.invokestatic 56, 3) := by decide +kernel
theorem dX5_set_17 : decode cX5_set 17 = .ok (.iload_n 3, 1) := by decide +kernel
theorem dX5_set_18 : decode cX5_set 18 = .ok (.ifCond .lt 9, 3) := by decide +kernel
theorem dX5_set_21 : decode cX5_set 21 = .ok (.iload_n 3, 1) := by decide +kernel
theorem dX5_set_22 : decode cX5_set 22 = .ok (.ldc 111, 2) := by decide +kernel
theorem dX5_set_24 : decode cX5_set 24 = .ok (.if_icmp .le 13, 3) := by decide +kernel
theorem dX5_set_27 : decode cX5_set 27 = .ok (.new 112, 3) := by decide +kernel
theorem dX5_set_30 : decode cX5_set 30 = .ok (.dup, 1) := by decide +kernel
theorem dX5_set_31 : decode cX5_set 31 = .ok (.ldc 114, 2) := by decide +kernel
theorem dX5_set_33 : decode cX5_set 33 = .ok (.invokespecial 116, 3) := by decide +kernel
theorem dX5_set_36 : decode cX5_set 36 = .ok (.athrow, 1) := by decide +kernel
theorem dX5_set_37 : decode cX5_set 37 = .ok (.aload 4, 2) := by decide +kernel
theorem dX5_set_39 : decode cX5_set 39 = .ok (.getfield 117, 3) := by decide +kernel
theorem dX5_set_42 : decode cX5_set 42 = .ok (.iload_n 2, 1) := by decide +kernel
theorem dX5_set_43 : decode cX5_set 43 = .ok (.laload, 1) := by decide +kernel
theorem dX5_set_44 : decode cX5_set 44 = .ok (.l2i, 1) := by decide +kernel
theorem dX5_set_45 : decode cX5_set 45 = .ok (.istore 5, 2) := by decide +kernel
theorem dX5_set_47 : decode cX5_set 47 = .ok (.aload 4, 2) := by decide +kernel
theorem dX5_set_49 : decode cX5_set 49 = .ok (.getfield 117, 3) := by decide +kernel
theorem dX5_set_52 : decode cX5_set 52 = .ok (.iload_n 2, 1) := by decide +kernel
theorem dX5_set_53 : decode cX5_set 53 = .ok (.iload_n 3, 1) := by decide +kernel
theorem dX5_set_54 : decode cX5_set 54 = .ok (.i2l, 1) := by decide +kernel
theorem dX5_set_55 : decode cX5_set 55 = .ok (.lastore, 1) := by decide +kernel
theorem dX5_set_56 : decode cX5_set 56 = .ok (.iload 5, 2) := by decide +kernel
theorem dX5_set_58 : decode cX5_set 58 = .ok (.ireturn, 1) := by decide +kernel
set_option maxRecDepth 20000 in
theorem ggX5_grains_X5_heapNumbered : GoodIn wsX5_grains wsX5_heapNumbered := goodIn_ca (goodIn_r _ [7, 8, 9, 10, 11, 19, 20, 21, 22, 23, 24, 25] (by decide +kernel) (by decide +kernel)) (goodIn_sub (fun _ h => List.mem_cons_of_mem _ (List.mem_append_right _ h)) (by decide +kernel))
set_option maxRecDepth 20000 in
theorem gX5_grains_X5_heapNumbered : GoodIn wsX5_grains (wsV RX5 103 RX5 yX5_heapNumbered wsX5_heapNumbered) := goodIn_app (goodIn_of _ (by decide +kernel)) ggX5_grains_X5_heapNumbered
set_option maxRecDepth 20000 in
theorem ggX5_grains_X5_requirePlace : GoodIn wsX5_grains wsX5_requirePlace := goodIn_ca (goodIn_r _ [14, 8, 9, 15, 26, 27, 28, 29] (by decide +kernel) (by decide +kernel)) (goodIn_sub (fun _ h => List.mem_cons_of_mem _ (List.mem_append_right _ h)) (by decide +kernel))
set_option maxRecDepth 20000 in
theorem gX5_grains_X5_requirePlace : GoodIn wsX5_grains (va_wsS RX5 56 yX5_requirePlace wsX5_requirePlace) := goodIn_app (goodIn_of _ (by decide +kernel)) ggX5_grains_X5_requirePlace
theorem dX5_grains_0 : decode cX5_grains 0 = .ok (.aload_n 0, 1) := by decide +kernel
theorem dX5_grains_1 : decode cX5_grains 1 = .ok (.iload_n 1, 1) := by decide +kernel
theorem dX5_grains_2 : decode cX5_grains 2 = .ok (.invokevirtual 103, 3) := by decide +kernel
theorem dX5_grains_5 : decode cX5_grains 5 = .ok (.astore_n 3, 1) := by decide +kernel
theorem dX5_grains_6 : decode cX5_grains 6 = .ok (.aload_n 3, 1) := by decide +kernel
theorem dX5_grains_7 : decode cX5_grains 7 = .ok (.getfield 107, 3) := by decide +kernel
theorem dX5_grains_10 : decode cX5_grains 10 = .ok (.iload_n 2, 1) := by decide +kernel
theorem dX5_grains_11 : decode cX5_grains 11 = .ok (.iconst 0, 1) := by decide +kernel
theorem dX5_grains_12 : decode cX5_grains 12 = .ok (.invokestatic 56, 3) := by decide +kernel
theorem dX5_grains_15 : decode cX5_grains 15 = .ok (.aload_n 3, 1) := by decide +kernel
theorem dX5_grains_16 : decode cX5_grains 16 = .ok (.getfield 117, 3) := by decide +kernel
theorem dX5_grains_19 : decode cX5_grains 19 = .ok (.iload_n 2, 1) := by decide +kernel
theorem dX5_grains_20 : decode cX5_grains 20 = .ok (.laload, 1) := by decide +kernel
theorem dX5_grains_21 : decode cX5_grains 21 = .ok (.lreturn, 1) := by decide +kernel
set_option maxRecDepth 20000 in
theorem ggX5_topple_X5_heapNumbered : GoodIn wsX5_topple wsX5_heapNumbered := goodIn_ca (goodIn_r _ [8, 9, 10, 11, 12, 32, 33, 34, 35, 36, 37, 38] (by decide +kernel) (by decide +kernel)) (goodIn_sub (fun _ h => List.mem_cons_of_mem _ (List.mem_append_right _ h)) (by decide +kernel))
set_option maxRecDepth 20000 in
theorem gX5_topple_X5_heapNumbered : GoodIn wsX5_topple (wsV RX5 103 RX5 yX5_heapNumbered wsX5_heapNumbered) := goodIn_app (goodIn_of _ (by decide +kernel)) ggX5_topple_X5_heapNumbered
set_option maxRecDepth 20000 in
theorem ggX5_topple_X5_requirePlace : GoodIn wsX5_topple wsX5_requirePlace := goodIn_ca (goodIn_r _ [15, 9, 10, 16, 28, 29, 30, 31] (by decide +kernel) (by decide +kernel)) (goodIn_sub (fun _ h => List.mem_cons_of_mem _ (List.mem_append_right _ h)) (by decide +kernel))
set_option maxRecDepth 20000 in
theorem gX5_topple_X5_requirePlace : GoodIn wsX5_topple (va_wsS RX5 56 yX5_requirePlace wsX5_requirePlace) := goodIn_app (goodIn_of _ (by decide +kernel)) ggX5_topple_X5_requirePlace
set_option maxRecDepth 20000 in
theorem ggX5_topple_X4_fell : GoodIn wsX5_topple wsX4_fell := goodIn_r _ [21, 22, 23, 24, 28, 29, 30, 31] (by decide +kernel) (by decide +kernel)
set_option maxRecDepth 20000 in
theorem gX5_topple_X4_fell : GoodIn wsX5_topple (wsV RX5 121 RX4 yX4_fell wsX4_fell) := goodIn_app (goodIn_of _ (by decide +kernel)) ggX5_topple_X4_fell
theorem dX5_topple_0 : decode cX5_topple 0 = .ok (.aload_n 0, 1) := by decide +kernel
theorem dX5_topple_1 : decode cX5_topple 1 = .ok (.iload_n 1, 1) := by decide +kernel
theorem dX5_topple_2 : decode cX5_topple 2 = .ok (.invokevirtual 103, 3) := by decide +kernel
theorem dX5_topple_5 : decode cX5_topple 5 = .ok (.astore_n 3, 1) := by decide +kernel
theorem dX5_topple_6 : decode cX5_topple 6 = .ok (.aload_n 3, 1) := by decide +kernel
theorem dX5_topple_7 : decode cX5_topple 7 = .ok (.getfield 107, 3) := by decide +kernel
theorem dX5_topple_10 : decode cX5_topple 10 = .ok (.iload_n 2, 1) := by decide +kernel
theorem dX5_topple_11 : decode cX5_topple 11 = .ok (.iconst 1, 1) := by decide +kernel
theorem dX5_topple_12 : decode cX5_topple 12 = .ok (.invokestatic 56, 3) := by decide +kernel
theorem dX5_topple_15 : decode cX5_topple 15 = .ok (.aload_n 3, 1) := by decide +kernel
theorem dX5_topple_16 : decode cX5_topple 16 = .ok (.getfield 117, 3) := by decide +kernel
theorem dX5_topple_19 : decode cX5_topple 19 = .ok (.iload_n 2, 1) := by decide +kernel
theorem dX5_topple_20 : decode cX5_topple 20 = .ok (.laload, 1) := by decide +kernel
theorem dX5_topple_21 : decode cX5_topple 21 = .ok (.aload_n 3, 1) := by decide +kernel
theorem dX5_topple_22 : decode cX5_topple 22 = .ok (.getfield 107, 3) := by decide +kernel
theorem dX5_topple_25 : decode cX5_topple 25 = .ok (.getfield 68, 3) := by decide +kernel
theorem dX5_topple_28 : decode cX5_topple 28 = .ok (.iload_n 2, 1) := by decide +kernel
theorem dX5_topple_29 : decode cX5_topple 29 = .ok (.iaload, 1) := by decide +kernel
theorem dX5_topple_30 : decode cX5_topple 30 = .ok (.i2l, 1) := by decide +kernel
theorem dX5_topple_31 : decode cX5_topple 31 = .ok (.lcmp, 1) := by decide +kernel
theorem dX5_topple_32 : decode cX5_topple 32 = .ok (.ifCond .ge 5, 3) := by decide +kernel
theorem dX5_topple_35 : decode cX5_topple 35 = .ok (.iconst 0, 1) := by decide +kernel
theorem dX5_topple_36 : decode cX5_topple 36 = .ok (.ireturn, 1) := by decide +kernel
theorem dX5_topple_37 : decode cX5_topple 37 = .ok (.aload_n 3, 1) := by decide +kernel
theorem dX5_topple_38 : decode cX5_topple 38 = .ok (.getfield 107, 3) := by decide +kernel
theorem dX5_topple_41 : decode cX5_topple 41 = .ok (.aload_n 3, 1) := by decide +kernel
theorem dX5_topple_42 : decode cX5_topple 42 = .ok (.getfield 117, 3) := by decide +kernel
theorem dX5_topple_45 : decode cX5_topple 45 = .ok (.iload_n 2, 1) := by decide +kernel
theorem dX5_topple_46 : decode cX5_topple 46 = .ok (.lconst 1, 1) := by decide +kernel
theorem dX5_topple_47 : decode cX5_topple 47 = .ok (.invokevirtual 121, 3) := by decide +kernel
theorem dX5_topple_50 : decode cX5_topple 50 = .ok (.iconst 1, 1) := by decide +kernel
theorem dX5_topple_51 : decode cX5_topple 51 = .ok (.ireturn, 1) := by decide +kernel
set_option maxRecDepth 20000 in
theorem ggX5_settle_X5_heapNumbered : GoodIn wsX5_settle wsX5_heapNumbered := goodIn_ca (goodIn_r _ [5, 6, 7, 8, 9, 39, 40, 41, 42, 43, 44, 45] (by decide +kernel) (by decide +kernel)) (goodIn_sub (fun _ h => List.mem_cons_of_mem _ (List.mem_append_right _ h)) (by decide +kernel))
set_option maxRecDepth 20000 in
theorem gX5_settle_X5_heapNumbered : GoodIn wsX5_settle (wsV RX5 103 RX5 yX5_heapNumbered wsX5_heapNumbered) := goodIn_app (goodIn_of _ (by decide +kernel)) ggX5_settle_X5_heapNumbered
set_option maxRecDepth 20000 in
theorem ggX5_settle_X1_calm : GoodIn wsX5_settle wsX1_calm := goodIn_r _ [14, 15, 16, 17, 18, 19, 20, 21, 22, 23, 24, 25, 26, 27, 28, 29, 30, 31, 32, 33, 34, 35, 36, 37, 38, 46, 47, 48, 49, 50, 51, 52] (by decide +kernel) (by decide +kernel)
set_option maxRecDepth 20000 in
theorem gX5_settle_X1_calm : GoodIn wsX5_settle (wsV RX5 125 RX1 yX1_calm wsX1_calm) := goodIn_app (goodIn_of _ (by decide +kernel)) ggX5_settle_X1_calm
theorem dX5_settle_0 : decode cX5_settle 0 = .ok (.aload_n 0, 1) := by decide +kernel
theorem dX5_settle_1 : decode cX5_settle 1 = .ok (.iload_n 1, 1) := by decide +kernel
theorem dX5_settle_2 : decode cX5_settle 2 = .ok (.invokevirtual 103, 3) := by decide +kernel
theorem dX5_settle_5 : decode cX5_settle 5 = .ok (.invokevirtual 125, 3) := by decide +kernel
theorem dX5_settle_8 : decode cX5_settle 8 = .ok (.lreturn, 1) := by decide +kernel
set_option maxRecDepth 20000 in
theorem ggX5_drop_X5_heapNumbered : GoodIn wsX5_drop wsX5_heapNumbered := goodIn_ca (goodIn_r _ [7, 8, 9, 10, 11, 48, 49, 50, 51, 52, 53, 54] (by decide +kernel) (by decide +kernel)) (goodIn_sub (fun _ h => List.mem_cons_of_mem _ (List.mem_append_right _ h)) (by decide +kernel))
set_option maxRecDepth 20000 in
theorem gX5_drop_X5_heapNumbered : GoodIn wsX5_drop (wsV RX5 103 RX5 yX5_heapNumbered wsX5_heapNumbered) := goodIn_app (goodIn_of _ (by decide +kernel)) ggX5_drop_X5_heapNumbered
set_option maxRecDepth 20000 in
theorem ggX5_drop_X5_requirePlace : GoodIn wsX5_drop wsX5_requirePlace := goodIn_ca (goodIn_r _ [14, 8, 9, 15, 55, 56, 57, 58] (by decide +kernel) (by decide +kernel)) (goodIn_sub (fun _ h => List.mem_cons_of_mem _ (List.mem_append_right _ h)) (by decide +kernel))
set_option maxRecDepth 20000 in
theorem gX5_drop_X5_requirePlace : GoodIn wsX5_drop (va_wsS RX5 56 yX5_requirePlace wsX5_requirePlace) := goodIn_app (goodIn_of _ (by decide +kernel)) ggX5_drop_X5_requirePlace
set_option maxRecDepth 20000 in
theorem ggX5_drop_X1_calm : GoodIn wsX5_drop wsX1_calm := goodIn_r _ [20, 21, 22, 23, 24, 25, 26, 27, 28, 29, 30, 31, 32, 33, 34, 35, 36, 37, 38, 39, 40, 41, 42, 43, 44, 45, 46, 47, 55, 56, 57, 58] (by decide +kernel) (by decide +kernel)
set_option maxRecDepth 20000 in
theorem gX5_drop_X1_calm : GoodIn wsX5_drop (wsV RX5 125 RX1 yX1_calm wsX1_calm) := goodIn_app (goodIn_of _ (by decide +kernel)) ggX5_drop_X1_calm
theorem dX5_drop_0 : decode cX5_drop 0 = .ok (.aload_n 0, 1) := by decide +kernel
theorem dX5_drop_1 : decode cX5_drop 1 = .ok (.iload_n 1, 1) := by decide +kernel
theorem dX5_drop_2 : decode cX5_drop 2 = .ok (.invokevirtual 103, 3) := by decide +kernel
theorem dX5_drop_5 : decode cX5_drop 5 = .ok (.astore_n 3, 1) := by decide +kernel
theorem dX5_drop_6 : decode cX5_drop 6 = .ok (.aload_n 3, 1) := by decide +kernel
theorem dX5_drop_7 : decode cX5_drop 7 = .ok (.getfield 107, 3) := by decide +kernel
theorem dX5_drop_10 : decode cX5_drop 10 = .ok (.iload_n 2, 1) := by decide +kernel
theorem dX5_drop_11 : decode cX5_drop 11 = .ok (.iconst 1, 1) := by decide +kernel
theorem dX5_drop_12 : decode cX5_drop 12 = .ok (.invokestatic 56, 3) := by decide +kernel
theorem dX5_drop_15 : decode cX5_drop 15 = .ok (.aload_n 3, 1) := by decide +kernel
theorem dX5_drop_16 : decode cX5_drop 16 = .ok (.getfield 117, 3) := by decide +kernel
theorem dX5_drop_19 : decode cX5_drop 19 = .ok (.iload_n 2, 1) := by decide +kernel
theorem dX5_drop_20 : decode cX5_drop 20 = .ok (.dup2, 1) := by decide +kernel
theorem dX5_drop_21 : decode cX5_drop 21 = .ok (.laload, 1) := by decide +kernel
theorem dX5_drop_22 : decode cX5_drop 22 = .ok (.lconst 1, 1) := by decide +kernel
theorem dX5_drop_23 : decode cX5_drop 23 = .ok (.ladd, 1) := by decide +kernel
theorem dX5_drop_24 : decode cX5_drop 24 = .ok (.lastore, 1) := by decide +kernel
theorem dX5_drop_25 : decode cX5_drop 25 = .ok (.aload_n 3, 1) := by decide +kernel
theorem dX5_drop_26 : decode cX5_drop 26 = .ok (.invokevirtual 125, 3) := by decide +kernel
theorem dX5_drop_29 : decode cX5_drop 29 = .ok (.lreturn, 1) := by decide +kernel
set_option maxRecDepth 20000 in
theorem ggX5_toppled_X5_heapNumbered : GoodIn wsX5_toppled wsX5_heapNumbered := goodIn_ca (goodIn_r _ [7, 8, 9, 10, 11, 19, 20, 21, 22, 23, 24, 25] (by decide +kernel) (by decide +kernel)) (goodIn_sub (fun _ h => List.mem_cons_of_mem _ (List.mem_append_right _ h)) (by decide +kernel))
set_option maxRecDepth 20000 in
theorem gX5_toppled_X5_heapNumbered : GoodIn wsX5_toppled (wsV RX5 103 RX5 yX5_heapNumbered wsX5_heapNumbered) := goodIn_app (goodIn_of _ (by decide +kernel)) ggX5_toppled_X5_heapNumbered
set_option maxRecDepth 20000 in
theorem ggX5_toppled_X5_requirePlace : GoodIn wsX5_toppled wsX5_requirePlace := goodIn_ca (goodIn_r _ [14, 8, 9, 15, 26, 27, 28, 29] (by decide +kernel) (by decide +kernel)) (goodIn_sub (fun _ h => List.mem_cons_of_mem _ (List.mem_append_right _ h)) (by decide +kernel))
set_option maxRecDepth 20000 in
theorem gX5_toppled_X5_requirePlace : GoodIn wsX5_toppled (va_wsS RX5 56 yX5_requirePlace wsX5_requirePlace) := goodIn_app (goodIn_of _ (by decide +kernel)) ggX5_toppled_X5_requirePlace
theorem dX5_toppled_0 : decode cX5_toppled 0 = .ok (.aload_n 0, 1) := by decide +kernel
theorem dX5_toppled_1 : decode cX5_toppled 1 = .ok (.iload_n 1, 1) := by decide +kernel
theorem dX5_toppled_2 : decode cX5_toppled 2 = .ok (.invokevirtual 103, 3) := by decide +kernel
theorem dX5_toppled_5 : decode cX5_toppled 5 = .ok (.astore_n 3, 1) := by decide +kernel
theorem dX5_toppled_6 : decode cX5_toppled 6 = .ok (.aload_n 3, 1) := by decide +kernel
theorem dX5_toppled_7 : decode cX5_toppled 7 = .ok (.getfield 107, 3) := by decide +kernel
theorem dX5_toppled_10 : decode cX5_toppled 10 = .ok (.iload_n 2, 1) := by decide +kernel
theorem dX5_toppled_11 : decode cX5_toppled 11 = .ok (.iconst 0, 1) := by decide +kernel
theorem dX5_toppled_12 : decode cX5_toppled 12 = .ok (.invokestatic 56, 3) := by decide +kernel
theorem dX5_toppled_15 : decode cX5_toppled 15 = .ok (.aload_n 3, 1) := by decide +kernel
theorem dX5_toppled_16 : decode cX5_toppled 16 = .ok (.getfield 129, 3) := by decide +kernel
theorem dX5_toppled_19 : decode cX5_toppled 19 = .ok (.iload_n 2, 1) := by decide +kernel
theorem dX5_toppled_20 : decode cX5_toppled 20 = .ok (.laload, 1) := by decide +kernel
theorem dX5_toppled_21 : decode cX5_toppled 21 = .ok (.lreturn, 1) := by decide +kernel
set_option maxRecDepth 20000 in
theorem ggX5_is_X5_heapNumbered : GoodIn wsX5_is wsX5_heapNumbered := goodIn_ca (goodIn_r _ [10, 1, 2, 11, 12, 45, 46, 47, 48, 49, 50, 51] (by decide +kernel) (by decide +kernel)) (goodIn_sub (fun _ h => List.mem_cons_of_mem _ (List.mem_append_right _ h)) (by decide +kernel))
set_option maxRecDepth 20000 in
theorem gX5_is_X5_heapNumbered : GoodIn wsX5_is (wsV RX5 103 RX5 yX5_heapNumbered wsX5_heapNumbered) := goodIn_app (goodIn_of _ (by decide +kernel)) ggX5_is_X5_heapNumbered
set_option maxRecDepth 20000 in
theorem ggX5_is_X4_isCalm : GoodIn wsX5_is wsX4_isCalm := goodIn_r _ [17, 18, 19, 52, 53, 54, 55] (by decide +kernel) (by decide +kernel)
set_option maxRecDepth 20000 in
theorem gX5_is_X4_isCalm : GoodIn wsX5_is (wsV RX5 132 RX4 yX4_isCalm wsX4_isCalm) := goodIn_app (goodIn_of _ (by decide +kernel)) ggX5_is_X4_isCalm
set_option maxRecDepth 20000 in
theorem ggX5_is_X0_burnsAll : GoodIn wsX5_is wsX0_burnsAll := goodIn_r _ [24, 25, 26, 27, 28, 29, 30, 31, 14, 15, 16, 17, 18, 19, 32, 33, 34, 23, 35, 36, 37, 38, 39, 40, 41, 56, 52, 53, 54, 55] (by decide +kernel) (by decide +kernel)
set_option maxRecDepth 20000 in
theorem gX5_is_X0_burnsAll : GoodIn wsX5_is (wsV RX5 136 RX0 yX0_burnsAll wsX0_burnsAll) := goodIn_app (goodIn_of _ (by decide +kernel)) ggX5_is_X0_burnsAll
theorem dX5_is_0 : decode cX5_is 0 = .ok (.aload_n 0, 1) := by decide +kernel
theorem dX5_is_1 : decode cX5_is 1 = .ok (.iload_n 1, 1) := by decide +kernel
theorem dX5_is_2 : decode cX5_is 2 = .ok (.invokevirtual 103, 3) := by decide +kernel
theorem dX5_is_5 : decode cX5_is 5 = .ok (.astore_n 3, 1) := by decide +kernel
theorem dX5_is_6 : decode cX5_is 6 = .ok (.iload_n 2, 1) := by decide +kernel
theorem dX5_is_7 : decode cX5_is 7 = .ok (.lookupswitch 53 #[(0, 25), (1, 37)], 25) := by decide +kernel
theorem dX5_is_32 : decode cX5_is 32 = .ok (.aload_n 3, 1) := by decide +kernel
theorem dX5_is_33 : decode cX5_is 33 = .ok (.getfield 107, 3) := by decide +kernel
theorem dX5_is_36 : decode cX5_is 36 = .ok (.aload_n 3, 1) := by decide +kernel
theorem dX5_is_37 : decode cX5_is 37 = .ok (.getfield 117, 3) := by decide +kernel
theorem dX5_is_40 : decode cX5_is 40 = .ok (.invokevirtual 132, 3) := by decide +kernel
theorem dX5_is_43 : decode cX5_is 43 = .ok (.ireturn, 1) := by decide +kernel
theorem dX5_is_44 : decode cX5_is 44 = .ok (.aload_n 0, 1) := by decide +kernel
theorem dX5_is_45 : decode cX5_is 45 = .ok (.getfield 31, 3) := by decide +kernel
theorem dX5_is_48 : decode cX5_is 48 = .ok (.aload_n 3, 1) := by decide +kernel
theorem dX5_is_49 : decode cX5_is 49 = .ok (.getfield 107, 3) := by decide +kernel
theorem dX5_is_52 : decode cX5_is 52 = .ok (.aload_n 3, 1) := by decide +kernel
theorem dX5_is_53 : decode cX5_is 53 = .ok (.getfield 117, 3) := by decide +kernel
theorem dX5_is_56 : decode cX5_is 56 = .ok (.invokevirtual 136, 3) := by decide +kernel
theorem dX5_is_59 : decode cX5_is 59 = .ok (.ireturn, 1) := by decide +kernel
theorem dX5_is_60 : decode cX5_is 60 = .ok (.new 91, 3) := by decide +kernel
theorem dX5_is_63 : decode cX5_is 63 = .ok (.dup, 1) := by decide +kernel
theorem dX5_is_64 : decode cX5_is 64 = .ok (.ldc 140, 2) := by decide +kernel
theorem dX5_is_66 : decode cX5_is 66 = .ok (.invokespecial 95, 3) := by decide +kernel
theorem dX5_is_69 : decode cX5_is 69 = .ok (.athrow, 1) := by decide +kernel
set_option maxRecDepth 20000 in
theorem ggX5_burns_X5_heapNumbered : GoodIn wsX5_burns wsX5_heapNumbered := goodIn_ca (goodIn_r _ [9, 10, 11, 12, 13, 49, 50, 51, 52, 53, 54, 55] (by decide +kernel) (by decide +kernel)) (goodIn_sub (fun _ h => List.mem_cons_of_mem _ (List.mem_append_right _ h)) (by decide +kernel))
set_option maxRecDepth 20000 in
theorem gX5_burns_X5_heapNumbered : GoodIn wsX5_burns (wsV RX5 103 RX5 yX5_heapNumbered wsX5_heapNumbered) := goodIn_app (goodIn_of _ (by decide +kernel)) ggX5_burns_X5_heapNumbered
set_option maxRecDepth 20000 in
theorem ggX5_burns_X5_requirePlace : GoodIn wsX5_burns wsX5_requirePlace := goodIn_ca (goodIn_r _ [16, 10, 11, 17, 57, 58, 59, 60] (by decide +kernel) (by decide +kernel)) (goodIn_sub (fun _ h => List.mem_cons_of_mem _ (List.mem_append_right _ h)) (by decide +kernel))
set_option maxRecDepth 20000 in
theorem gX5_burns_X5_requirePlace : GoodIn wsX5_burns (va_wsS RX5 56 yX5_requirePlace wsX5_requirePlace) := goodIn_app (goodIn_of _ (by decide +kernel)) ggX5_burns_X5_requirePlace
set_option maxRecDepth 20000 in
theorem ggX5_burns_X0_burnsAll : GoodIn wsX5_burns wsX0_burnsAll := goodIn_r _ [22, 23, 24, 25, 26, 27, 28, 29, 30, 31, 32, 33, 34, 35, 36, 37, 38, 21, 39, 40, 41, 42, 43, 44, 45, 56, 57, 58, 59, 60] (by decide +kernel) (by decide +kernel)
set_option maxRecDepth 20000 in
theorem gX5_burns_X0_burnsAll : GoodIn wsX5_burns (wsV RX5 136 RX0 yX0_burnsAll wsX0_burnsAll) := goodIn_app (goodIn_of _ (by decide +kernel)) ggX5_burns_X0_burnsAll
theorem dX5_burns_0 : decode cX5_burns 0 = .ok (.aload_n 0, 1) := by decide +kernel
theorem dX5_burns_1 : decode cX5_burns 1 = .ok (.iload_n 1, 1) := by decide +kernel
theorem dX5_burns_2 : decode cX5_burns 2 = .ok (.invokevirtual 103, 3) := by decide +kernel
theorem dX5_burns_5 : decode cX5_burns 5 = .ok (.astore_n 3, 1) := by decide +kernel
theorem dX5_burns_6 : decode cX5_burns 6 = .ok (.aload_n 3, 1) := by decide +kernel
theorem dX5_burns_7 : decode cX5_burns 7 = .ok (.getfield 107, 3) := by decide +kernel
theorem dX5_burns_10 : decode cX5_burns 10 = .ok (.iload_n 2, 1) := by decide +kernel
theorem dX5_burns_11 : decode cX5_burns 11 = .ok (.iconst 0, 1) := by decide +kernel
theorem dX5_burns_12 : decode cX5_burns 12 = .ok (.invokestatic 56, 3) := by decide +kernel
theorem dX5_burns_15 : decode cX5_burns 15 = .ok (.aload_n 0, 1) := by decide +kernel
theorem dX5_burns_16 : decode cX5_burns 16 = .ok (.getfield 31, 3) := by decide +kernel
theorem dX5_burns_19 : decode cX5_burns 19 = .ok (.aload_n 3, 1) := by decide +kernel
theorem dX5_burns_20 : decode cX5_burns 20 = .ok (.getfield 107, 3) := by decide +kernel
theorem dX5_burns_23 : decode cX5_burns 23 = .ok (.aload_n 3, 1) := by decide +kernel
theorem dX5_burns_24 : decode cX5_burns 24 = .ok (.getfield 117, 3) := by decide +kernel
theorem dX5_burns_27 : decode cX5_burns 27 = .ok (.invokevirtual 136, 3) := by decide +kernel
theorem dX5_burns_30 : decode cX5_burns 30 = .ok (.pop, 1) := by decide +kernel
theorem dX5_burns_31 : decode cX5_burns 31 = .ok (.aload_n 0, 1) := by decide +kernel
theorem dX5_burns_32 : decode cX5_burns 32 = .ok (.getfield 31, 3) := by decide +kernel
theorem dX5_burns_35 : decode cX5_burns 35 = .ok (.getfield 142, 3) := by decide +kernel
theorem dX5_burns_38 : decode cX5_burns 38 = .ok (.iload_n 2, 1) := by decide +kernel
theorem dX5_burns_39 : decode cX5_burns 39 = .ok (.iaload, 1) := by decide +kernel
theorem dX5_burns_40 : decode cX5_burns 40 = .ok (.ireturn, 1) := by decide +kernel
set_option maxRecDepth 20000 in
theorem ggX5_add_X5_heapNumbered : GoodIn wsX5_add wsX5_heapNumbered := goodIn_ca (goodIn_r _ [8, 9, 10, 11, 12, 54, 55, 56, 57, 58, 59, 60] (by decide +kernel) (by decide +kernel)) (goodIn_sub (fun _ h => List.mem_cons_of_mem _ (List.mem_append_left _ (List.mem_append_right _ h))) (by decide +kernel))
set_option maxRecDepth 20000 in
theorem gX5_add_X5_heapNumbered : GoodIn wsX5_add (wsV RX5 103 RX5 yX5_heapNumbered wsX5_heapNumbered) := goodIn_app (goodIn_of _ (by decide +kernel)) ggX5_add_X5_heapNumbered
set_option maxRecDepth 20000 in
theorem ggX5_add_X5_requireOneYard : GoodIn wsX5_add wsX5_requireOneYard := goodIn_ca (goodIn_r _ [15, 16, 17, 1, 47, 48, 49] (by decide +kernel) (by decide +kernel)) (goodIn_sub (fun _ h => List.mem_cons_of_mem _ (List.mem_append_right _ h)) (by decide +kernel))
set_option maxRecDepth 20000 in
theorem gX5_add_X5_requireOneYard : GoodIn wsX5_add (va_wsS RX5 145 yX5_requireOneYard wsX5_requireOneYard) := goodIn_app (goodIn_of _ (by decide +kernel)) ggX5_add_X5_requireOneYard
set_option maxRecDepth 20000 in
theorem ggX5_add_X1_calm : GoodIn wsX5_add wsX1_calm := goodIn_r _ [22, 23, 24, 25, 26, 27, 28, 29, 30, 31, 32, 33, 34, 35, 36, 37, 38, 39, 40, 41, 42, 43, 44, 45, 46, 47, 48, 49, 50, 51, 52, 53] (by decide +kernel) (by decide +kernel)
set_option maxRecDepth 20000 in
theorem gX5_add_X1_calm : GoodIn wsX5_add (wsV RX5 125 RX1 yX1_calm wsX1_calm) := goodIn_app (goodIn_of _ (by decide +kernel)) ggX5_add_X1_calm
theorem dX5_add_0 : decode cX5_add 0 = .ok (.aload_n 0, 1) := by decide +kernel
theorem dX5_add_1 : decode cX5_add 1 = .ok (.iload_n 1, 1) := by decide +kernel
theorem dX5_add_2 : decode cX5_add 2 = .ok (.invokevirtual 103, 3) := by decide +kernel
theorem dX5_add_5 : decode cX5_add 5 = .ok (.astore_n 3, 1) := by decide +kernel
theorem dX5_add_6 : decode cX5_add 6 = .ok (.aload_n 0, 1) := by decide +kernel
theorem dX5_add_7 : decode cX5_add 7 = .ok (.iload_n 2, 1) := by decide +kernel
theorem dX5_add_8 : decode cX5_add 8 = .ok (.invokevirtual 103, 3) := by decide +kernel
theorem dX5_add_11 : decode cX5_add 11 = .ok (.astore 4, 2) := by decide +kernel
theorem dX5_add_13 : decode cX5_add 13 = .ok (.aload_n 3, 1) := by decide +kernel
theorem dX5_add_14 : decode cX5_add 14 = .ok (.aload 4, 2) := by decide +kernel
theorem dX5_add_16 : decode cX5_add 16 = .ok (.invokestatic 145, 3) := by decide +kernel
theorem dX5_add_19 : decode cX5_add 19 = .ok (.iconst 1, 1) := by decide +kernel
theorem dX5_add_20 : decode cX5_add 20 = .ok (.istore 5, 2) := by decide +kernel
theorem dX5_add_22 : decode cX5_add 22 = .ok (.iload 5, 2) := by decide +kernel
theorem dX5_add_24 : decode cX5_add 24 = .ok (.aload_n 3, 1) := by decide +kernel
theorem dX5_add_25 : decode cX5_add 25 = .ok (.getfield 107, 3) := by decide +kernel
theorem dX5_add_28 : decode cX5_add 28 = .ok (.getfield 149, 3) := by decide +kernel
theorem dX5_add_31 : decode cX5_add 31 = .ok (.if_icmp .ge 27, 3) := by decide +kernel
theorem dX5_add_34 : decode cX5_add 34 = .ok (.aload_n 3, 1) := by decide +kernel
theorem dX5_add_35 : decode cX5_add 35 = .ok (.getfield 117, 3) := by decide +kernel
theorem dX5_add_38 : decode cX5_add 38 = .ok (.iload 5, 2) := by decide +kernel
theorem dX5_add_40 : decode cX5_add 40 = .ok (.dup2, 1) := by decide +kernel
theorem dX5_add_41 : decode cX5_add 41 = .ok (.laload, 1) := by decide +kernel
theorem dX5_add_42 : decode cX5_add 42 = .ok (.aload 4, 2) := by decide +kernel
theorem dX5_add_44 : decode cX5_add 44 = .ok (.getfield 117, 3) := by decide +kernel
theorem dX5_add_47 : decode cX5_add 47 = .ok (.iload 5, 2) := by decide +kernel
theorem dX5_add_49 : decode cX5_add 49 = .ok (.laload, 1) := by decide +kernel
theorem dX5_add_50 : decode cX5_add 50 = .ok (.ladd, 1) := by decide +kernel
theorem dX5_add_51 : decode cX5_add 51 = .ok (.lastore, 1) := by decide +kernel
theorem dX5_add_52 : decode cX5_add 52 = .ok (.iinc 5 1, 3) := by decide +kernel
theorem dX5_add_55 : decode cX5_add 55 = .ok (.goto (-33), 3) := by decide +kernel
theorem dX5_add_58 : decode cX5_add 58 = .ok (.aload_n 3, 1) := by decide +kernel
theorem dX5_add_59 : decode cX5_add 59 = .ok (.invokevirtual 125, 3) := by decide +kernel
theorem dX5_add_62 : decode cX5_add 62 = .ok (.lreturn, 1) := by decide +kernel
set_option maxRecDepth 20000 in
theorem ggX5_become_X5_heapNumbered : GoodIn wsX5_become wsX5_heapNumbered := goodIn_ca (goodIn_r _ [10, 1, 2, 11, 12, 76, 77, 78, 79, 80, 81, 82] (by decide +kernel) (by decide +kernel)) (goodIn_sub (fun _ h => List.mem_cons_of_mem _ (List.mem_append_right _ h)) (by decide +kernel))
set_option maxRecDepth 20000 in
theorem gX5_become_X5_heapNumbered : GoodIn wsX5_become (wsV RX5 103 RX5 yX5_heapNumbered wsX5_heapNumbered) := goodIn_app (goodIn_of _ (by decide +kernel)) ggX5_become_X5_heapNumbered
set_option maxRecDepth 20000 in
theorem ggX5_become_X2_noGrains : GoodIn wsX5_become wsX2_noGrains := goodIn_r _ [17, 18, 86, 87, 88, 89, 90, 91] (by decide +kernel) (by decide +kernel)
set_option maxRecDepth 20000 in
theorem gX5_become_X2_noGrains : GoodIn wsX5_become (wsV RX5 152 RX2 yX2_noGrains wsX2_noGrains) := goodIn_app (goodIn_of _ (by decide +kernel)) ggX5_become_X2_noGrains
set_option maxRecDepth 20000 in
theorem ggX5_become_X1_take : GoodIn wsX5_become wsX1_take := goodIn_r _ [23, 24, 25, 26, 83, 84, 85, 92, 93, 94, 95] (by decide +kernel) (by decide +kernel)
set_option maxRecDepth 20000 in
theorem gX5_become_X1_take : GoodIn wsX5_become (wsV RX5 156 RX1 yX1_take wsX1_take) := goodIn_app (goodIn_of _ (by decide +kernel)) ggX5_become_X1_take
set_option maxRecDepth 20000 in
theorem ggX5_become_X2_fullest : GoodIn wsX5_become wsX2_fullest := goodIn_r _ [30, 31, 32, 33, 92, 93, 94, 95, 86, 87, 88, 89, 90, 91] (by decide +kernel) (by decide +kernel)
set_option maxRecDepth 20000 in
theorem gX5_become_X2_fullest : GoodIn wsX5_become (wsV RX5 160 RX2 yX2_fullest wsX2_fullest) := goodIn_app (goodIn_of _ (by decide +kernel)) ggX5_become_X2_fullest
set_option maxRecDepth 20000 in
theorem ggX5_become_X2_comingAgain : GoodIn wsX5_become wsX2_comingAgain := goodIn_r _ [37, 31, 38, 39, 40, 41, 42, 16, 43, 44, 32, 45, 28, 29, 30, 33, 46, 47, 48, 49, 50, 51, 52, 53, 54, 55, 56, 57, 58, 59, 60, 61, 62, 63, 64, 65, 66, 92, 93, 94, 95, 86, 87, 88, 89, 90, 91] (by decide +kernel) (by decide +kernel)
set_option maxRecDepth 20000 in
theorem gX5_become_X2_comingAgain : GoodIn wsX5_become (wsV RX5 164 RX2 yX2_comingAgain wsX2_comingAgain) := goodIn_app (goodIn_of _ (by decide +kernel)) ggX5_become_X2_comingAgain
set_option maxRecDepth 20000 in
theorem ggX5_become_X2_against : GoodIn wsX5_become wsX2_against := goodIn_r _ [70, 71, 72, 73, 74, 75, 39, 31, 38, 46, 47, 48, 49, 50, 51, 52, 53, 54, 55, 56, 57, 58, 59, 60, 61, 62, 63, 64, 65, 66, 40, 41, 42, 16, 43, 44, 32, 45, 28, 29, 30, 33, 86, 87, 88, 89, 90, 91, 92, 93, 94, 95] (by decide +kernel) (by decide +kernel)
set_option maxRecDepth 20000 in
theorem gX5_become_X2_against : GoodIn wsX5_become (wsV RX5 168 RX2 yX2_against wsX2_against) := goodIn_app (goodIn_of _ (by decide +kernel)) ggX5_become_X2_against
theorem dX5_become_0 : decode cX5_become 0 = .ok (.aload_n 0, 1) := by decide +kernel
theorem dX5_become_1 : decode cX5_become 1 = .ok (.iload_n 1, 1) := by decide +kernel
theorem dX5_become_2 : decode cX5_become 2 = .ok (.invokevirtual 103, 3) := by decide +kernel
theorem dX5_become_5 : decode cX5_become 5 = .ok (.astore_n 3, 1) := by decide +kernel
theorem dX5_become_6 : decode cX5_become 6 = .ok (.iload_n 2, 1) := by decide +kernel
theorem dX5_become_7 : decode cX5_become 7 = .ok (.tableswitch 145 0 4 #[33, 47, 65, 90, 123], 33) := by decide +kernel
theorem dX5_become_40 : decode cX5_become 40 = .ok (.aload_n 3, 1) := by decide +kernel
theorem dX5_become_41 : decode cX5_become 41 = .ok (.aload_n 0, 1) := by decide +kernel
theorem dX5_become_42 : decode cX5_become 42 = .ok (.getfield 38, 3) := by decide +kernel
theorem dX5_become_45 : decode cX5_become 45 = .ok (.invokevirtual 152, 3) := by decide +kernel
theorem dX5_become_48 : decode cX5_become 48 = .ok (.invokevirtual 156, 3) := by decide +kernel
theorem dX5_become_51 : decode cX5_become 51 = .ok (.goto 111, 3) := by decide +kernel
theorem dX5_become_54 : decode cX5_become 54 = .ok (.aload_n 3, 1) := by decide +kernel
theorem dX5_become_55 : decode cX5_become 55 = .ok (.aload_n 0, 1) := by decide +kernel
theorem dX5_become_56 : decode cX5_become 56 = .ok (.getfield 38, 3) := by decide +kernel
theorem dX5_become_59 : decode cX5_become 59 = .ok (.aload_n 3, 1) := by decide +kernel
theorem dX5_become_60 : decode cX5_become 60 = .ok (.getfield 107, 3) := by decide +kernel
theorem dX5_become_63 : decode cX5_become 63 = .ok (.invokevirtual 160, 3) := by decide +kernel
theorem dX5_become_66 : decode cX5_become 66 = .ok (.invokevirtual 156, 3) := by decide +kernel
theorem dX5_become_69 : decode cX5_become 69 = .ok (.goto 93, 3) := by decide +kernel
theorem dX5_become_72 : decode cX5_become 72 = .ok (.aload_n 3, 1) := by decide +kernel
theorem dX5_become_73 : decode cX5_become 73 = .ok (.aload_n 0, 1) := by decide +kernel
theorem dX5_become_74 : decode cX5_become 74 = .ok (.getfield 38, 3) := by decide +kernel
theorem dX5_become_77 : decode cX5_become 77 = .ok (.aload_n 3, 1) := by decide +kernel
theorem dX5_become_78 : decode cX5_become 78 = .ok (.getfield 107, 3) := by decide +kernel
theorem dX5_become_81 : decode cX5_become 81 = .ok (.aload_n 0, 1) := by decide +kernel
theorem dX5_become_82 : decode cX5_become 82 = .ok (.getfield 38, 3) := by decide +kernel
theorem dX5_become_85 : decode cX5_become 85 = .ok (.invokevirtual 152, 3) := by decide +kernel
theorem dX5_become_88 : decode cX5_become 88 = .ok (.invokevirtual 164, 3) := by decide +kernel
theorem dX5_become_91 : decode cX5_become 91 = .ok (.invokevirtual 156, 3) := by decide +kernel
theorem dX5_become_94 : decode cX5_become 94 = .ok (.goto 68, 3) := by decide +kernel
theorem dX5_become_97 : decode cX5_become 97 = .ok (.aload_n 3, 1) := by decide +kernel
theorem dX5_become_98 : decode cX5_become 98 = .ok (.aload_n 0, 1) := by decide +kernel
theorem dX5_become_99 : decode cX5_become 99 = .ok (.getfield 38, 3) := by decide +kernel
theorem dX5_become_102 : decode cX5_become 102 = .ok (.aload_n 3, 1) := by decide +kernel
theorem dX5_become_103 : decode cX5_become 103 = .ok (.getfield 107, 3) := by decide +kernel
theorem dX5_become_106 : decode cX5_become 106 = .ok (.aload_n 0, 1) := by decide +kernel
theorem dX5_become_107 : decode cX5_become 107 = .ok (.getfield 38, 3) := by decide +kernel
theorem dX5_become_110 : decode cX5_become 110 = .ok (.aload_n 3, 1) := by decide +kernel
theorem dX5_become_111 : decode cX5_become 111 = .ok (.getfield 107, 3) := by decide +kernel
theorem dX5_become_114 : decode cX5_become 114 = .ok (.aload_n 3, 1) := by decide +kernel
theorem dX5_become_115 : decode cX5_become 115 = .ok (.getfield 117, 3) := by decide +kernel
theorem dX5_become_118 : decode cX5_become 118 = .ok (.invokevirtual 168, 3) := by decide +kernel
theorem dX5_become_121 : decode cX5_become 121 = .ok (.invokevirtual 164, 3) := by decide +kernel
theorem dX5_become_124 : decode cX5_become 124 = .ok (.invokevirtual 156, 3) := by decide +kernel
theorem dX5_become_127 : decode cX5_become 127 = .ok (.goto 35, 3) := by decide +kernel
theorem dX5_become_130 : decode cX5_become 130 = .ok (.aload_n 3, 1) := by decide +kernel
theorem dX5_become_131 : decode cX5_become 131 = .ok (.aload_n 0, 1) := by decide +kernel
theorem dX5_become_132 : decode cX5_become 132 = .ok (.getfield 38, 3) := by decide +kernel
theorem dX5_become_135 : decode cX5_become 135 = .ok (.aload_n 3, 1) := by decide +kernel
theorem dX5_become_136 : decode cX5_become 136 = .ok (.getfield 107, 3) := by decide +kernel
theorem dX5_become_139 : decode cX5_become 139 = .ok (.aload_n 3, 1) := by decide +kernel
theorem dX5_become_140 : decode cX5_become 140 = .ok (.getfield 117, 3) := by decide +kernel
theorem dX5_become_143 : decode cX5_become 143 = .ok (.invokevirtual 164, 3) := by decide +kernel
theorem dX5_become_146 : decode cX5_become 146 = .ok (.invokevirtual 156, 3) := by decide +kernel
theorem dX5_become_149 : decode cX5_become 149 = .ok (.goto 13, 3) := by decide +kernel
theorem dX5_become_152 : decode cX5_become 152 = .ok (.new 91, 3) := by decide +kernel
theorem dX5_become_155 : decode cX5_become 155 = .ok (.dup, 1) := by decide +kernel
theorem dX5_become_156 : decode cX5_become 156 = .ok (.ldc 171, 2) := by decide +kernel
theorem dX5_become_158 : decode cX5_become 158 = .ok (.invokespecial 95, 3) := by decide +kernel
theorem dX5_become_161 : decode cX5_become 161 = .ok (.athrow, 1) := by decide +kernel
theorem dX5_become_162 : decode cX5_become 162 = .ok (.return_, 1) := by decide +kernel
set_option maxRecDepth 20000 in
theorem ggX5_alike_X5_heapNumbered : GoodIn wsX5_alike wsX5_heapNumbered := goodIn_ca (goodIn_r _ [8, 9, 10, 11, 12, 73, 74, 75, 76, 77, 78, 79] (by decide +kernel) (by decide +kernel)) (goodIn_sub (fun _ h => List.mem_cons_of_mem _ (List.mem_append_left _ (List.mem_append_right _ h))) (by decide +kernel))
set_option maxRecDepth 20000 in
theorem gX5_alike_X5_heapNumbered : GoodIn wsX5_alike (wsV RX5 103 RX5 yX5_heapNumbered wsX5_heapNumbered) := goodIn_app (goodIn_of _ (by decide +kernel)) ggX5_alike_X5_heapNumbered
set_option maxRecDepth 20000 in
theorem ggX5_alike_X5_requireOneYard : GoodIn wsX5_alike wsX5_requireOneYard := goodIn_ca (goodIn_r _ [15, 16, 17, 2, 80, 81, 82] (by decide +kernel) (by decide +kernel)) (goodIn_sub (fun _ h => List.mem_cons_of_mem _ (List.mem_append_right _ h)) (by decide +kernel))
set_option maxRecDepth 20000 in
theorem gX5_alike_X5_requireOneYard : GoodIn wsX5_alike (va_wsS RX5 145 yX5_requireOneYard wsX5_requireOneYard) := goodIn_app (goodIn_of _ (by decide +kernel)) ggX5_alike_X5_requireOneYard
set_option maxRecDepth 20000 in
theorem ggX5_alike_X2_timesToNothing : GoodIn wsX5_alike wsX2_timesToNothing := goodIn_r _ [22, 23, 24, 25, 26, 27, 28, 29, 30, 31, 32, 33, 34, 35, 36, 37, 38, 39, 40, 41, 42, 43, 44, 45, 46, 47, 48, 49, 50, 51, 52, 53, 54, 55, 21, 56, 57, 58, 59, 60, 61, 62, 63, 64, 65, 66, 67, 7, 68, 69, 70, 71, 72, 83, 84, 85, 86, 87, 88, 89, 90, 91, 92] (by decide +kernel) (by decide +kernel)
set_option maxRecDepth 20000 in
theorem gX5_alike_X2_timesToNothing : GoodIn wsX5_alike (wsV RX5 173 RX2 yX2_timesToNothing wsX2_timesToNothing) := goodIn_app (goodIn_of _ (by decide +kernel)) ggX5_alike_X2_timesToNothing
theorem dX5_alike_0 : decode cX5_alike 0 = .ok (.aload_n 0, 1) := by decide +kernel
theorem dX5_alike_1 : decode cX5_alike 1 = .ok (.iload_n 1, 1) := by decide +kernel
theorem dX5_alike_2 : decode cX5_alike 2 = .ok (.invokevirtual 103, 3) := by decide +kernel
theorem dX5_alike_5 : decode cX5_alike 5 = .ok (.astore_n 3, 1) := by decide +kernel
theorem dX5_alike_6 : decode cX5_alike 6 = .ok (.aload_n 0, 1) := by decide +kernel
theorem dX5_alike_7 : decode cX5_alike 7 = .ok (.iload_n 2, 1) := by decide +kernel
theorem dX5_alike_8 : decode cX5_alike 8 = .ok (.invokevirtual 103, 3) := by decide +kernel
theorem dX5_alike_11 : decode cX5_alike 11 = .ok (.astore 4, 2) := by decide +kernel
theorem dX5_alike_13 : decode cX5_alike 13 = .ok (.aload_n 3, 1) := by decide +kernel
theorem dX5_alike_14 : decode cX5_alike 14 = .ok (.aload 4, 2) := by decide +kernel
theorem dX5_alike_16 : decode cX5_alike 16 = .ok (.invokestatic 145, 3) := by decide +kernel
theorem dX5_alike_19 : decode cX5_alike 19 = .ok (.aload_n 0, 1) := by decide +kernel
theorem dX5_alike_20 : decode cX5_alike 20 = .ok (.getfield 38, 3) := by decide +kernel
theorem dX5_alike_23 : decode cX5_alike 23 = .ok (.aload_n 3, 1) := by decide +kernel
theorem dX5_alike_24 : decode cX5_alike 24 = .ok (.getfield 107, 3) := by decide +kernel
theorem dX5_alike_27 : decode cX5_alike 27 = .ok (.aload_n 3, 1) := by decide +kernel
theorem dX5_alike_28 : decode cX5_alike 28 = .ok (.getfield 117, 3) := by decide +kernel
theorem dX5_alike_31 : decode cX5_alike 31 = .ok (.aload 4, 2) := by decide +kernel
theorem dX5_alike_33 : decode cX5_alike 33 = .ok (.getfield 117, 3) := by decide +kernel
theorem dX5_alike_36 : decode cX5_alike 36 = .ok (.invokevirtual 173, 3) := by decide +kernel
theorem dX5_alike_39 : decode cX5_alike 39 = .ok (.lconst 1, 1) := by decide +kernel
theorem dX5_alike_40 : decode cX5_alike 40 = .ok (.lcmp, 1) := by decide +kernel
theorem dX5_alike_41 : decode cX5_alike 41 = .ok (.ifCond .ne 7, 3) := by decide +kernel
theorem dX5_alike_44 : decode cX5_alike 44 = .ok (.iconst 1, 1) := by decide +kernel
theorem dX5_alike_45 : decode cX5_alike 45 = .ok (.goto 4, 3) := by decide +kernel
theorem dX5_alike_48 : decode cX5_alike 48 = .ok (.iconst 0, 1) := by decide +kernel
theorem dX5_alike_49 : decode cX5_alike 49 = .ok (.ireturn, 1) := by decide +kernel
set_option maxRecDepth 20000 in
theorem ggX5_order_X5_heapNumbered : GoodIn wsX5_order wsX5_heapNumbered := goodIn_ca (goodIn_r _ [8, 9, 10, 11, 12, 73, 74, 75, 76, 77, 78, 79] (by decide +kernel) (by decide +kernel)) (goodIn_sub (fun _ h => List.mem_cons_of_mem _ (List.mem_append_right _ h)) (by decide +kernel))
set_option maxRecDepth 20000 in
theorem gX5_order_X5_heapNumbered : GoodIn wsX5_order (wsV RX5 103 RX5 yX5_heapNumbered wsX5_heapNumbered) := goodIn_app (goodIn_of _ (by decide +kernel)) ggX5_order_X5_heapNumbered
set_option maxRecDepth 20000 in
theorem ggX5_order_X2_noGrains : GoodIn wsX5_order wsX2_noGrains := goodIn_r _ [17, 18, 83, 84, 85, 86, 87, 88] (by decide +kernel) (by decide +kernel)
set_option maxRecDepth 20000 in
theorem gX5_order_X2_noGrains : GoodIn wsX5_order (wsV RX5 152 RX2 yX2_noGrains wsX2_noGrains) := goodIn_app (goodIn_of _ (by decide +kernel)) ggX5_order_X2_noGrains
set_option maxRecDepth 20000 in
theorem ggX5_order_X2_timesToNothing : GoodIn wsX5_order wsX2_timesToNothing := goodIn_r _ [22, 23, 24, 25, 26, 27, 28, 29, 30, 31, 32, 33, 34, 35, 36, 37, 38, 39, 40, 41, 42, 43, 44, 45, 46, 47, 48, 49, 50, 51, 52, 53, 54, 55, 16, 56, 57, 58, 59, 60, 61, 62, 63, 64, 65, 66, 67, 7, 68, 69, 70, 71, 72, 83, 84, 85, 86, 87, 88, 89, 90, 91, 92] (by decide +kernel) (by decide +kernel)
set_option maxRecDepth 20000 in
theorem gX5_order_X2_timesToNothing : GoodIn wsX5_order (wsV RX5 173 RX2 yX2_timesToNothing wsX2_timesToNothing) := goodIn_app (goodIn_of _ (by decide +kernel)) ggX5_order_X2_timesToNothing
theorem dX5_order_0 : decode cX5_order 0 = .ok (.aload_n 0, 1) := by decide +kernel
theorem dX5_order_1 : decode cX5_order 1 = .ok (.iload_n 1, 1) := by decide +kernel
theorem dX5_order_2 : decode cX5_order 2 = .ok (.invokevirtual 103, 3) := by decide +kernel
theorem dX5_order_5 : decode cX5_order 5 = .ok (.astore_n 2, 1) := by decide +kernel
theorem dX5_order_6 : decode cX5_order 6 = .ok (.aload_n 0, 1) := by decide +kernel
theorem dX5_order_7 : decode cX5_order 7 = .ok (.getfield 38, 3) := by decide +kernel
theorem dX5_order_10 : decode cX5_order 10 = .ok (.aload_n 2, 1) := by decide +kernel
theorem dX5_order_11 : decode cX5_order 11 = .ok (.getfield 107, 3) := by decide +kernel
theorem dX5_order_14 : decode cX5_order 14 = .ok (.aload_n 2, 1) := by decide +kernel
theorem dX5_order_15 : decode cX5_order 15 = .ok (.getfield 117, 3) := by decide +kernel
theorem dX5_order_18 : decode cX5_order 18 = .ok (.aload_n 0, 1) := by decide +kernel
theorem dX5_order_19 : decode cX5_order 19 = .ok (.getfield 38, 3) := by decide +kernel
theorem dX5_order_22 : decode cX5_order 22 = .ok (.invokevirtual 152, 3) := by decide +kernel
theorem dX5_order_25 : decode cX5_order 25 = .ok (.invokevirtual 173, 3) := by decide +kernel
theorem dX5_order_28 : decode cX5_order 28 = .ok (.lreturn, 1) := by decide +kernel
set_option maxRecDepth 20000 in
theorem ggX5_tree_X5_heapNumbered : GoodIn wsX5_tree wsX5_heapNumbered := goodIn_ca (goodIn_r _ [12, 1, 2, 13, 14, 63, 64, 65, 66, 67, 68, 69] (by decide +kernel) (by decide +kernel)) (goodIn_sub (fun _ h => List.mem_cons_of_mem _ (List.mem_append_left _ (List.mem_append_right _ h))) (by decide +kernel))
set_option maxRecDepth 20000 in
theorem gX5_tree_X5_heapNumbered : GoodIn wsX5_tree (wsV RX5 103 RX5 yX5_heapNumbered wsX5_heapNumbered) := goodIn_app (goodIn_of _ (by decide +kernel)) ggX5_tree_X5_heapNumbered
set_option maxRecDepth 20000 in
theorem ggX5_tree_X5_requirePlace : GoodIn wsX5_tree wsX5_requirePlace := goodIn_ca (goodIn_r _ [17, 1, 2, 18, 70, 71, 72, 73] (by decide +kernel) (by decide +kernel)) (goodIn_sub (fun _ h => List.mem_cons_of_mem _ (List.mem_append_left _ (List.mem_append_right _ h))) (by decide +kernel))
set_option maxRecDepth 20000 in
theorem gX5_tree_X5_requirePlace : GoodIn wsX5_tree (va_wsS RX5 56 yX5_requirePlace wsX5_requirePlace) := goodIn_app (goodIn_of _ (by decide +kernel)) ggX5_tree_X5_requirePlace
set_option maxRecDepth 20000 in
theorem ggX5_tree_X0_burnsAll : GoodIn wsX5_tree wsX0_burnsAll := goodIn_r _ [23, 24, 25, 26, 27, 28, 29, 30, 31, 32, 33, 34, 35, 36, 37, 38, 39, 22, 40, 41, 42, 43, 44, 45, 46, 74, 70, 71, 72, 73] (by decide +kernel) (by decide +kernel)
set_option maxRecDepth 20000 in
theorem gX5_tree_X0_burnsAll : GoodIn wsX5_tree (wsV RX5 136 RX0 yX0_burnsAll wsX0_burnsAll) := goodIn_app (goodIn_of _ (by decide +kernel)) ggX5_tree_X0_burnsAll
set_option maxRecDepth 20000 in
theorem ggX5_tree_X0_leadsTo : GoodIn wsX5_tree wsX0_leadsTo := goodIn_r _ [50, 24, 25, 37, 38, 39, 22, 40, 41, 42, 51, 52, 53, 54, 74, 70, 71, 72, 73] (by decide +kernel) (by decide +kernel)
set_option maxRecDepth 20000 in
theorem gX5_tree_X0_leadsTo : GoodIn wsX5_tree (wsV RX5 179 RX0 yX0_leadsTo wsX0_leadsTo) := goodIn_app (goodIn_of _ (by decide +kernel)) ggX5_tree_X0_leadsTo
set_option maxRecDepth 20000 in
theorem ggX5_tree_X0_byPath : GoodIn wsX5_tree wsX0_byPath := goodIn_r _ [58, 24, 37, 38, 39, 22, 40, 41, 25, 42, 59, 48, 49, 50, 51, 52, 53, 54, 74, 70, 71, 72, 73] (by decide +kernel) (by decide +kernel)
set_option maxRecDepth 20000 in
theorem gX5_tree_X0_byPath : GoodIn wsX5_tree (wsV RX5 183 RX0 yX0_byPath wsX0_byPath) := goodIn_app (goodIn_of _ (by decide +kernel)) ggX5_tree_X0_byPath
theorem dX5_tree_0 : decode cX5_tree 0 = .ok (.aload_n 0, 1) := by decide +kernel
theorem dX5_tree_1 : decode cX5_tree 1 = .ok (.iload_n 1, 1) := by decide +kernel
theorem dX5_tree_2 : decode cX5_tree 2 = .ok (.invokevirtual 103, 3) := by decide +kernel
theorem dX5_tree_5 : decode cX5_tree 5 = .ok (.astore 4, 2) := by decide +kernel
theorem dX5_tree_7 : decode cX5_tree 7 = .ok (.aload 4, 2) := by decide +kernel
theorem dX5_tree_9 : decode cX5_tree 9 = .ok (.getfield 107, 3) := by decide +kernel
theorem dX5_tree_12 : decode cX5_tree 12 = .ok (.iload_n 2, 1) := by decide +kernel
theorem dX5_tree_13 : decode cX5_tree 13 = .ok (.iconst 1, 1) := by decide +kernel
theorem dX5_tree_14 : decode cX5_tree 14 = .ok (.invokestatic 56, 3) := by decide +kernel
theorem dX5_tree_17 : decode cX5_tree 17 = .ok (.iload_n 3, 1) := by decide +kernel
theorem dX5_tree_18 : decode cX5_tree 18 = .ok (.ifCond .eq 18, 3) := by decide +kernel
theorem dX5_tree_21 : decode cX5_tree 21 = .ok (.iload_n 3, 1) := by decide +kernel
theorem dX5_tree_22 : decode cX5_tree 22 = .ok (.iconst 1, 1) := by decide +kernel
theorem dX5_tree_23 : decode cX5_tree 23 = .ok (.if_icmp .eq 13, 3) := by decide +kernel
theorem dX5_tree_26 : decode cX5_tree 26 = .ok (.new 91, 3) := by decide +kernel
theorem dX5_tree_29 : decode cX5_tree 29 = .ok (.dup, 1) := by decide +kernel
theorem dX5_tree_30 : decode cX5_tree 30 = .ok (.ldc 140, 2) := by decide +kernel
theorem dX5_tree_32 : decode cX5_tree 32 = .ok (.invokespecial 95, 3) := by decide +kernel
theorem dX5_tree_35 : decode cX5_tree 35 = .ok (.athrow, 1) := by decide +kernel
theorem dX5_tree_36 : decode cX5_tree 36 = .ok (.aload_n 0, 1) := by decide +kernel
theorem dX5_tree_37 : decode cX5_tree 37 = .ok (.getfield 31, 3) := by decide +kernel
theorem dX5_tree_40 : decode cX5_tree 40 = .ok (.aload 4, 2) := by decide +kernel
theorem dX5_tree_42 : decode cX5_tree 42 = .ok (.getfield 107, 3) := by decide +kernel
theorem dX5_tree_45 : decode cX5_tree 45 = .ok (.aload 4, 2) := by decide +kernel
theorem dX5_tree_47 : decode cX5_tree 47 = .ok (.getfield 117, 3) := by decide +kernel
theorem dX5_tree_50 : decode cX5_tree 50 = .ok (.invokevirtual 136, 3) := by decide +kernel
theorem dX5_tree_53 : decode cX5_tree 53 = .ok (.ifCond .ne 13, 3) := by decide +kernel
theorem dX5_tree_56 : decode cX5_tree 56 = .ok (.new 80, 3) := by decide +kernel
theorem dX5_tree_59 : decode cX5_tree 59 = .ok (.dup, 1) := by decide +kernel
theorem dX5_tree_60 : decode cX5_tree 60 = .ok (.ldc 177, 2) := by decide +kernel
theorem dX5_tree_62 : decode cX5_tree 62 = .ok (.invokespecial 84, 3) := by decide +kernel
theorem dX5_tree_65 : decode cX5_tree 65 = .ok (.athrow, 1) := by decide +kernel
theorem dX5_tree_66 : decode cX5_tree 66 = .ok (.iload_n 3, 1) := by decide +kernel
theorem dX5_tree_67 : decode cX5_tree 67 = .ok (.ifCond .ne 24, 3) := by decide +kernel
theorem dX5_tree_70 : decode cX5_tree 70 = .ok (.aload_n 0, 1) := by decide +kernel
theorem dX5_tree_71 : decode cX5_tree 71 = .ok (.getfield 31, 3) := by decide +kernel
theorem dX5_tree_74 : decode cX5_tree 74 = .ok (.aload 4, 2) := by decide +kernel
theorem dX5_tree_76 : decode cX5_tree 76 = .ok (.getfield 107, 3) := by decide +kernel
theorem dX5_tree_79 : decode cX5_tree 79 = .ok (.aload 4, 2) := by decide +kernel
theorem dX5_tree_81 : decode cX5_tree 81 = .ok (.getfield 117, 3) := by decide +kernel
theorem dX5_tree_84 : decode cX5_tree 84 = .ok (.iload_n 2, 1) := by decide +kernel
theorem dX5_tree_85 : decode cX5_tree 85 = .ok (.invokevirtual 179, 3) := by decide +kernel
theorem dX5_tree_88 : decode cX5_tree 88 = .ok (.goto 21, 3) := by decide +kernel
theorem dX5_tree_91 : decode cX5_tree 91 = .ok (.aload_n 0, 1) := by decide +kernel
theorem dX5_tree_92 : decode cX5_tree 92 = .ok (.getfield 31, 3) := by decide +kernel
theorem dX5_tree_95 : decode cX5_tree 95 = .ok (.aload 4, 2) := by decide +kernel
theorem dX5_tree_97 : decode cX5_tree 97 = .ok (.getfield 107, 3) := by decide +kernel
theorem dX5_tree_100 : decode cX5_tree 100 = .ok (.aload 4, 2) := by decide +kernel
theorem dX5_tree_102 : decode cX5_tree 102 = .ok (.getfield 117, 3) := by decide +kernel
theorem dX5_tree_105 : decode cX5_tree 105 = .ok (.iload_n 2, 1) := by decide +kernel
theorem dX5_tree_106 : decode cX5_tree 106 = .ok (.invokevirtual 183, 3) := by decide +kernel
theorem dX5_tree_109 : decode cX5_tree 109 = .ok (.ireturn, 1) := by decide +kernel
set_option maxRecDepth 20000 in
theorem ggX5_grow_X5_heapNumbered : GoodIn wsX5_grow wsX5_heapNumbered := goodIn_ca (goodIn_r _ [9, 10, 11, 12, 13, 49, 50, 51, 52, 53, 54, 55] (by decide +kernel) (by decide +kernel)) (goodIn_sub (fun _ h => List.mem_cons_of_mem _ (List.mem_append_right _ h)) (by decide +kernel))
set_option maxRecDepth 20000 in
theorem gX5_grow_X5_heapNumbered : GoodIn wsX5_grow (wsV RX5 103 RX5 yX5_heapNumbered wsX5_heapNumbered) := goodIn_app (goodIn_of _ (by decide +kernel)) ggX5_grow_X5_heapNumbered
set_option maxRecDepth 20000 in
theorem ggX5_grow_X0_followsTree : GoodIn wsX5_grow wsX0_followsTree := goodIn_r _ [18, 19, 20, 21, 22, 23, 24, 25, 26, 27, 17, 28, 29, 30, 31, 32, 33, 34, 35, 63, 59, 60, 61, 62] (by decide +kernel) (by decide +kernel)
set_option maxRecDepth 20000 in
theorem gX5_grow_X0_followsTree : GoodIn wsX5_grow (wsV RX5 186 RX0 yX0_followsTree wsX0_followsTree) := goodIn_app (goodIn_of _ (by decide +kernel)) ggX5_grow_X0_followsTree
set_option maxRecDepth 20000 in
theorem ggX5_grow_X0_grainsByTree : GoodIn wsX5_grow wsX0_grainsByTree := goodIn_r _ [39, 19, 29, 30, 17, 31, 40, 41, 42, 43, 21, 26, 27, 28, 44, 45, 46, 47, 48, 20, 63, 59, 60, 61, 62] (by decide +kernel) (by decide +kernel)
set_option maxRecDepth 20000 in
theorem gX5_grow_X0_grainsByTree : GoodIn wsX5_grow (wsV RX5 190 RX0 yX0_grainsByTree wsX0_grainsByTree) := goodIn_app (goodIn_of _ (by decide +kernel)) ggX5_grow_X0_grainsByTree
theorem dX5_grow_0 : decode cX5_grow 0 = .ok (.aload_n 0, 1) := by decide +kernel
theorem dX5_grow_1 : decode cX5_grow 1 = .ok (.iload_n 1, 1) := by decide +kernel
theorem dX5_grow_2 : decode cX5_grow 2 = .ok (.invokevirtual 103, 3) := by decide +kernel
theorem dX5_grow_5 : decode cX5_grow 5 = .ok (.astore 4, 2) := by decide +kernel
theorem dX5_grow_7 : decode cX5_grow 7 = .ok (.aload_n 0, 1) := by decide +kernel
theorem dX5_grow_8 : decode cX5_grow 8 = .ok (.getfield 31, 3) := by decide +kernel
theorem dX5_grow_11 : decode cX5_grow 11 = .ok (.aload 4, 2) := by decide +kernel
theorem dX5_grow_13 : decode cX5_grow 13 = .ok (.getfield 107, 3) := by decide +kernel
theorem dX5_grow_16 : decode cX5_grow 16 = .ok (.lload_n 2, 1) := by decide +kernel
theorem dX5_grow_17 : decode cX5_grow 17 = .ok (.invokevirtual 186, 3) := by decide +kernel
theorem dX5_grow_20 : decode cX5_grow 20 = .ok (.ifCond .ne 5, 3) := by decide +kernel
theorem dX5_grow_23 : decode cX5_grow 23 = .ok (.iconst 0, 1) := by decide +kernel
theorem dX5_grow_24 : decode cX5_grow 24 = .ok (.ireturn, 1) := by decide +kernel
theorem dX5_grow_25 : decode cX5_grow 25 = .ok (.iconst 1, 1) := by decide +kernel
theorem dX5_grow_26 : decode cX5_grow 26 = .ok (.istore 5, 2) := by decide +kernel
theorem dX5_grow_28 : decode cX5_grow 28 = .ok (.iload 5, 2) := by decide +kernel
theorem dX5_grow_30 : decode cX5_grow 30 = .ok (.aload 4, 2) := by decide +kernel
theorem dX5_grow_32 : decode cX5_grow 32 = .ok (.getfield 107, 3) := by decide +kernel
theorem dX5_grow_35 : decode cX5_grow 35 = .ok (.getfield 149, 3) := by decide +kernel
theorem dX5_grow_38 : decode cX5_grow 38 = .ok (.if_icmp .ge 33, 3) := by decide +kernel
theorem dX5_grow_41 : decode cX5_grow 41 = .ok (.aload 4, 2) := by decide +kernel
theorem dX5_grow_43 : decode cX5_grow 43 = .ok (.getfield 117, 3) := by decide +kernel
theorem dX5_grow_46 : decode cX5_grow 46 = .ok (.iload 5, 2) := by decide +kernel
theorem dX5_grow_48 : decode cX5_grow 48 = .ok (.aload_n 0, 1) := by decide +kernel
theorem dX5_grow_49 : decode cX5_grow 49 = .ok (.getfield 31, 3) := by decide +kernel
theorem dX5_grow_52 : decode cX5_grow 52 = .ok (.aload 4, 2) := by decide +kernel
theorem dX5_grow_54 : decode cX5_grow 54 = .ok (.getfield 107, 3) := by decide +kernel
theorem dX5_grow_57 : decode cX5_grow 57 = .ok (.lload_n 2, 1) := by decide +kernel
theorem dX5_grow_58 : decode cX5_grow 58 = .ok (.iload 5, 2) := by decide +kernel
theorem dX5_grow_60 : decode cX5_grow 60 = .ok (.invokevirtual 190, 3) := by decide +kernel
theorem dX5_grow_63 : decode cX5_grow 63 = .ok (.i2l, 1) := by decide +kernel
theorem dX5_grow_64 : decode cX5_grow 64 = .ok (.lastore, 1) := by decide +kernel
theorem dX5_grow_65 : decode cX5_grow 65 = .ok (.iinc 5 1, 3) := by decide +kernel
theorem dX5_grow_68 : decode cX5_grow 68 = .ok (.goto (-40), 3) := by decide +kernel
theorem dX5_grow_71 : decode cX5_grow 71 = .ok (.iconst 1, 1) := by decide +kernel
theorem dX5_grow_72 : decode cX5_grow 72 = .ok (.ireturn, 1) := by decide +kernel
theorem dX5_count_0 : decode cX5_count 0 = .ok (.iload_n 1, 1) := by decide +kernel
theorem dX5_count_1 : decode cX5_count 1 = .ok (.lookupswitch 37 #[(0, 27), (1, 32)], 27) := by decide +kernel
theorem dX5_count_28 : decode cX5_count 28 = .ok (.aload_n 0, 1) := by decide +kernel
theorem dX5_count_29 : decode cX5_count 29 = .ok (.getfield 21, 3) := by decide +kernel
theorem dX5_count_32 : decode cX5_count 32 = .ok (.ireturn, 1) := by decide +kernel
theorem dX5_count_33 : decode cX5_count 33 = .ok (.aload_n 0, 1) := by decide +kernel
theorem dX5_count_34 : decode cX5_count 34 = .ok (.getfield 25, 3) := by decide +kernel
theorem dX5_count_37 : decode cX5_count 37 = .ok (.ireturn, 1) := by decide +kernel
theorem dX5_count_38 : decode cX5_count 38 = .ok (.new 91, 3) := by decide +kernel
theorem dX5_count_41 : decode cX5_count 41 = .ok (.dup, 1) := by decide +kernel
theorem dX5_count_42 : decode cX5_count 42 = .ok (.ldc 194, 2) := by decide +kernel
theorem dX5_count_44 : decode cX5_count 44 = .ok (.invokespecial 95, 3) := by decide +kernel
theorem dX5_count_47 : decode cX5_count 47 = .ok (.athrow, 1) := by decide +kernel
theorem dX5_yardNumbered_0 : decode cX5_yardNumbered 0 = .ok (.iload_n 1, 1) := by decide +kernel
theorem dX5_yardNumbered_1 : decode cX5_yardNumbered 1 = .ok (.ifCond .lt 20, 3) := by decide +kernel
theorem dX5_yardNumbered_4 : decode cX5_yardNumbered 4 = .ok (.iload_n 1, 1) := by decide +kernel
theorem dX5_yardNumbered_5 : decode cX5_yardNumbered 5 = .ok (.aload_n 0, 1) := by decide +kernel
theorem dX5_yardNumbered_6 : decode cX5_yardNumbered 6 = .ok (.getfield 21, 3) := by decide +kernel
theorem dX5_yardNumbered_9 : decode cX5_yardNumbered 9 = .ok (.if_icmp .ge 12, 3) := by decide +kernel
theorem dX5_yardNumbered_12 : decode cX5_yardNumbered 12 = .ok (.aload_n 0, 1) := by decide +kernel
theorem dX5_yardNumbered_13 : decode cX5_yardNumbered 13 = .ok (.getfield 11, 3) := by decide +kernel
theorem dX5_yardNumbered_16 : decode cX5_yardNumbered 16 = .ok (.iload_n 1, 1) := by decide +kernel
theorem dX5_yardNumbered_17 : decode cX5_yardNumbered 17 = .ok (.aaload, 1) := by decide +kernel
theorem dX5_yardNumbered_18 : decode cX5_yardNumbered 18 = .ok (.goto 4, 3) := by decide +kernel
theorem dX5_yardNumbered_21 : decode cX5_yardNumbered 21 = .ok (.aconst_null, 1) := by decide +kernel
theorem dX5_yardNumbered_22 : decode cX5_yardNumbered 22 = .ok (.astore_n 2, 1) := by decide +kernel
theorem dX5_yardNumbered_23 : decode cX5_yardNumbered 23 = .ok (.aload_n 2, 1) := by decide +kernel
theorem dX5_yardNumbered_24 : decode cX5_yardNumbered 24 = .ok (.ifnonnull 13, 3) := by decide +kernel
theorem dX5_yardNumbered_27 : decode cX5_yardNumbered 27 = .ok (.new 91, 3) := by decide +kernel
theorem dX5_yardNumbered_30 : decode cX5_yardNumbered 30 = .ok (.dup, 1) := by decide +kernel
theorem dX5_yardNumbered_31 : decode cX5_yardNumbered 31 = .ok (.ldc 196, 2) := by decide +kernel
theorem dX5_yardNumbered_33 : decode cX5_yardNumbered 33 = .ok (.invokespecial 95, 3) := by decide +kernel
theorem dX5_yardNumbered_36 : decode cX5_yardNumbered 36 = .ok (.athrow, 1) := by decide +kernel
theorem dX5_yardNumbered_37 : decode cX5_yardNumbered 37 = .ok (.aload_n 2, 1) := by decide +kernel
theorem dX5_yardNumbered_38 : decode cX5_yardNumbered 38 = .ok (.areturn, 1) := by decide +kernel
theorem dX5_heapNumbered_0 : decode cX5_heapNumbered 0 = .ok (.iload_n 1, 1) := by decide +kernel
theorem dX5_heapNumbered_1 : decode cX5_heapNumbered 1 = .ok (.ifCond .lt 20, 3) := by decide +kernel
theorem dX5_heapNumbered_4 : decode cX5_heapNumbered 4 = .ok (.iload_n 1, 1) := by decide +kernel
theorem dX5_heapNumbered_5 : decode cX5_heapNumbered 5 = .ok (.aload_n 0, 1) := by decide +kernel
theorem dX5_heapNumbered_6 : decode cX5_heapNumbered 6 = .ok (.getfield 25, 3) := by decide +kernel
theorem dX5_heapNumbered_9 : decode cX5_heapNumbered 9 = .ok (.if_icmp .ge 12, 3) := by decide +kernel
theorem dX5_heapNumbered_12 : decode cX5_heapNumbered 12 = .ok (.aload_n 0, 1) := by decide +kernel
theorem dX5_heapNumbered_13 : decode cX5_heapNumbered 13 = .ok (.getfield 17, 3) := by decide +kernel
theorem dX5_heapNumbered_16 : decode cX5_heapNumbered 16 = .ok (.iload_n 1, 1) := by decide +kernel
theorem dX5_heapNumbered_17 : decode cX5_heapNumbered 17 = .ok (.aaload, 1) := by decide +kernel
theorem dX5_heapNumbered_18 : decode cX5_heapNumbered 18 = .ok (.goto 4, 3) := by decide +kernel
theorem dX5_heapNumbered_21 : decode cX5_heapNumbered 21 = .ok (.aconst_null, 1) := by decide +kernel
theorem dX5_heapNumbered_22 : decode cX5_heapNumbered 22 = .ok (.astore_n 2, 1) := by decide +kernel
theorem dX5_heapNumbered_23 : decode cX5_heapNumbered 23 = .ok (.aload_n 2, 1) := by decide +kernel
theorem dX5_heapNumbered_24 : decode cX5_heapNumbered 24 = .ok (.ifnonnull 13, 3) := by decide +kernel
theorem dX5_heapNumbered_27 : decode cX5_heapNumbered 27 = .ok (.new 91, 3) := by decide +kernel
theorem dX5_heapNumbered_30 : decode cX5_heapNumbered 30 = .ok (.dup, 1) := by decide +kernel
theorem dX5_heapNumbered_31 : decode cX5_heapNumbered 31 = .ok (.ldc 198, 2) := by decide +kernel
theorem dX5_heapNumbered_33 : decode cX5_heapNumbered 33 = .ok (.invokespecial 95, 3) := by decide +kernel
theorem dX5_heapNumbered_36 : decode cX5_heapNumbered 36 = .ok (.athrow, 1) := by decide +kernel
theorem dX5_heapNumbered_37 : decode cX5_heapNumbered 37 = .ok (.aload_n 2, 1) := by decide +kernel
theorem dX5_heapNumbered_38 : decode cX5_heapNumbered 38 = .ok (.areturn, 1) := by decide +kernel
theorem dX5_requirePlace_0 : decode cX5_requirePlace 0 = .ok (.iload_n 1, 1) := by decide +kernel
theorem dX5_requirePlace_1 : decode cX5_requirePlace 1 = .ok (.iload_n 2, 1) := by decide +kernel
theorem dX5_requirePlace_2 : decode cX5_requirePlace 2 = .ok (.if_icmp .lt 11, 3) := by decide +kernel
theorem dX5_requirePlace_5 : decode cX5_requirePlace 5 = .ok (.iload_n 1, 1) := by decide +kernel
theorem dX5_requirePlace_6 : decode cX5_requirePlace 6 = .ok (.aload_n 0, 1) := by decide +kernel
theorem dX5_requirePlace_7 : decode cX5_requirePlace 7 = .ok (.getfield 149, 3) := by decide +kernel
theorem dX5_requirePlace_10 : decode cX5_requirePlace 10 = .ok (.if_icmp .lt 13, 3) := by decide +kernel
theorem dX5_requirePlace_13 : decode cX5_requirePlace 13 = .ok (.new 91, 3) := by decide +kernel
theorem dX5_requirePlace_16 : decode cX5_requirePlace 16 = .ok (.dup, 1) := by decide +kernel
theorem dX5_requirePlace_17 : decode cX5_requirePlace 17 = .ok (.ldc 200, 2) := by decide +kernel
theorem dX5_requirePlace_19 : decode cX5_requirePlace 19 = .ok (.invokespecial 95, 3) := by decide +kernel
theorem dX5_requirePlace_22 : decode cX5_requirePlace 22 = .ok (.athrow, 1) := by decide +kernel
theorem dX5_requirePlace_23 : decode cX5_requirePlace 23 = .ok (.return_, 1) := by decide +kernel
theorem dX5_requireOneYard_0 : decode cX5_requireOneYard 0 = .ok (.aload_n 0, 1) := by decide +kernel
theorem dX5_requireOneYard_1 : decode cX5_requireOneYard 1 = .ok (.getfield 107, 3) := by decide +kernel
theorem dX5_requireOneYard_4 : decode cX5_requireOneYard 4 = .ok (.aload_n 1, 1) := by decide +kernel
theorem dX5_requireOneYard_5 : decode cX5_requireOneYard 5 = .ok (.getfield 107, 3) := by decide +kernel
theorem dX5_requireOneYard_8 : decode cX5_requireOneYard 8 = .ok (.if_acmp .eq 13, 3) := by decide +kernel
theorem dX5_requireOneYard_11 : decode cX5_requireOneYard 11 = .ok (.new 112, 3) := by decide +kernel
theorem dX5_requireOneYard_14 : decode cX5_requireOneYard 14 = .ok (.dup, 1) := by decide +kernel
theorem dX5_requireOneYard_15 : decode cX5_requireOneYard 15 = .ok (.ldc 202, 2) := by decide +kernel
theorem dX5_requireOneYard_17 : decode cX5_requireOneYard 17 = .ok (.invokespecial 116, 3) := by decide +kernel
theorem dX5_requireOneYard_20 : decode cX5_requireOneYard 20 = .ok (.athrow, 1) := by decide +kernel
theorem dX5_requireOneYard_21 : decode cX5_requireOneYard 21 = .ok (.return_, 1) := by decide +kernel
theorem dX5_commonDivisor_0 : decode cX5_commonDivisor 0 = .ok (.lload_n 0, 1) := by decide +kernel
theorem dX5_commonDivisor_1 : decode cX5_commonDivisor 1 = .ok (.invokestatic 204, 3) := by decide +kernel
theorem dX5_commonDivisor_4 : decode cX5_commonDivisor 4 = .ok (.lstore 4, 2) := by decide +kernel
theorem dX5_commonDivisor_6 : decode cX5_commonDivisor 6 = .ok (.lload_n 2, 1) := by decide +kernel
theorem dX5_commonDivisor_7 : decode cX5_commonDivisor 7 = .ok (.invokestatic 204, 3) := by decide +kernel
theorem dX5_commonDivisor_10 : decode cX5_commonDivisor 10 = .ok (.lstore 6, 2) := by decide +kernel
theorem dX5_commonDivisor_12 : decode cX5_commonDivisor 12 = .ok (.iconst 0, 1) := by decide +kernel
theorem dX5_commonDivisor_13 : decode cX5_commonDivisor 13 = .ok (.istore 8, 2) := by decide +kernel
theorem dX5_commonDivisor_15 : decode cX5_commonDivisor 15 = .ok (.iload 8, 2) := by decide +kernel
theorem dX5_commonDivisor_17 : decode cX5_commonDivisor 17 = .ok (.bipush 100, 2) := by decide +kernel
theorem dX5_commonDivisor_19 : decode cX5_commonDivisor 19 = .ok (.if_icmp .ge 31, 3) := by decide +kernel
theorem dX5_commonDivisor_22 : decode cX5_commonDivisor 22 = .ok (.lload 6, 2) := by decide +kernel
theorem dX5_commonDivisor_24 : decode cX5_commonDivisor 24 = .ok (.lconst 0, 1) := by decide +kernel
theorem dX5_commonDivisor_25 : decode cX5_commonDivisor 25 = .ok (.lcmp, 1) := by decide +kernel
theorem dX5_commonDivisor_26 : decode cX5_commonDivisor 26 = .ok (.ifCond .eq 24, 3) := by decide +kernel
theorem dX5_commonDivisor_29 : decode cX5_commonDivisor 29 = .ok (.lload 4, 2) := by decide +kernel
theorem dX5_commonDivisor_31 : decode cX5_commonDivisor 31 = .ok (.lload 6, 2) := by decide +kernel
theorem dX5_commonDivisor_33 : decode cX5_commonDivisor 33 = .ok (.lrem, 1) := by decide +kernel
theorem dX5_commonDivisor_34 : decode cX5_commonDivisor 34 = .ok (.lstore 9, 2) := by decide +kernel
theorem dX5_commonDivisor_36 : decode cX5_commonDivisor 36 = .ok (.lload 6, 2) := by decide +kernel
theorem dX5_commonDivisor_38 : decode cX5_commonDivisor 38 = .ok (.lstore 4, 2) := by decide +kernel
theorem dX5_commonDivisor_40 : decode cX5_commonDivisor 40 = .ok (.lload 9, 2) := by decide +kernel
theorem dX5_commonDivisor_42 : decode cX5_commonDivisor 42 = .ok (.lstore 6, 2) := by decide +kernel
theorem dX5_commonDivisor_44 : decode cX5_commonDivisor 44 = .ok (.iinc 8 1, 3) := by decide +kernel
theorem dX5_commonDivisor_47 : decode cX5_commonDivisor 47 = .ok (.goto (-32), 3) := by decide +kernel
theorem dX5_commonDivisor_50 : decode cX5_commonDivisor 50 = .ok (.lload 4, 2) := by decide +kernel
theorem dX5_commonDivisor_52 : decode cX5_commonDivisor 52 = .ok (.lreturn, 1) := by decide +kernel
theorem dJ9_floorMod_f86c9_0 : decode cJ9_floorMod_f86c9 0 = .ok (.lload_n 0, 1) := by decide +kernel
theorem dJ9_floorMod_f86c9_1 : decode cJ9_floorMod_f86c9 1 = .ok (.lload_n 2, 1) := by decide +kernel
theorem dJ9_floorMod_f86c9_2 : decode cJ9_floorMod_f86c9 2 = .ok (.lrem, 1) := by decide +kernel
theorem dJ9_floorMod_f86c9_3 : decode cJ9_floorMod_f86c9 3 = .ok (.lstore 4, 2) := by decide +kernel
theorem dJ9_floorMod_f86c9_5 : decode cJ9_floorMod_f86c9 5 = .ok (.lload_n 0, 1) := by decide +kernel
theorem dJ9_floorMod_f86c9_6 : decode cJ9_floorMod_f86c9 6 = .ok (.lload_n 2, 1) := by decide +kernel
theorem dJ9_floorMod_f86c9_7 : decode cJ9_floorMod_f86c9 7 = .ok (.lxor, 1) := by decide +kernel
theorem dJ9_floorMod_f86c9_8 : decode cJ9_floorMod_f86c9 8 = .ok (.lconst 0, 1) := by decide +kernel
theorem dJ9_floorMod_f86c9_9 : decode cJ9_floorMod_f86c9 9 = .ok (.lcmp, 1) := by decide +kernel
theorem dJ9_floorMod_f86c9_10 : decode cJ9_floorMod_f86c9 10 = .ok (.ifCond .ge 15, 3) := by decide +kernel
theorem dJ9_floorMod_f86c9_13 : decode cJ9_floorMod_f86c9 13 = .ok (.lload 4, 2) := by decide +kernel
theorem dJ9_floorMod_f86c9_15 : decode cJ9_floorMod_f86c9 15 = .ok (.lconst 0, 1) := by decide +kernel
theorem dJ9_floorMod_f86c9_16 : decode cJ9_floorMod_f86c9 16 = .ok (.lcmp, 1) := by decide +kernel
theorem dJ9_floorMod_f86c9_17 : decode cJ9_floorMod_f86c9 17 = .ok (.ifCond .eq 8, 3) := by decide +kernel
theorem dJ9_floorMod_f86c9_20 : decode cJ9_floorMod_f86c9 20 = .ok (.lload 4, 2) := by decide +kernel
theorem dJ9_floorMod_f86c9_22 : decode cJ9_floorMod_f86c9 22 = .ok (.lload_n 2, 1) := by decide +kernel
theorem dJ9_floorMod_f86c9_23 : decode cJ9_floorMod_f86c9 23 = .ok (.ladd, 1) := by decide +kernel
theorem dJ9_floorMod_f86c9_24 : decode cJ9_floorMod_f86c9 24 = .ok (.lreturn, 1) := by decide +kernel
theorem dJ9_floorMod_f86c9_25 : decode cJ9_floorMod_f86c9 25 = .ok (.lload 4, 2) := by decide +kernel
theorem dJ9_floorMod_f86c9_27 : decode cJ9_floorMod_f86c9 27 = .ok (.lreturn, 1) := by decide +kernel
theorem dJ9_abs_067f4_0 : decode cJ9_abs_067f4 0 = .ok (.lload_n 0, 1) := by decide +kernel
theorem dJ9_abs_067f4_1 : decode cJ9_abs_067f4 1 = .ok (.lconst 0, 1) := by decide +kernel
theorem dJ9_abs_067f4_2 : decode cJ9_abs_067f4 2 = .ok (.lcmp, 1) := by decide +kernel
theorem dJ9_abs_067f4_3 : decode cJ9_abs_067f4 3 = .ok (.ifCond .ge 8, 3) := by decide +kernel
theorem dJ9_abs_067f4_6 : decode cJ9_abs_067f4 6 = .ok (.lload_n 0, 1) := by decide +kernel
theorem dJ9_abs_067f4_7 : decode cJ9_abs_067f4 7 = .ok (.lneg, 1) := by decide +kernel
theorem dJ9_abs_067f4_8 : decode cJ9_abs_067f4 8 = .ok (.goto 4, 3) := by decide +kernel
theorem dJ9_abs_067f4_11 : decode cJ9_abs_067f4 11 = .ok (.lload_n 0, 1) := by decide +kernel
theorem dJ9_abs_067f4_12 : decode cJ9_abs_067f4 12 = .ok (.lreturn, 1) := by decide +kernel
theorem dJ9_max_f86c9_0 : decode cJ9_max_f86c9 0 = .ok (.lload_n 0, 1) := by decide +kernel
theorem dJ9_max_f86c9_1 : decode cJ9_max_f86c9 1 = .ok (.lload_n 2, 1) := by decide +kernel
theorem dJ9_max_f86c9_2 : decode cJ9_max_f86c9 2 = .ok (.lcmp, 1) := by decide +kernel
theorem dJ9_max_f86c9_3 : decode cJ9_max_f86c9 3 = .ok (.ifCond .lt 7, 3) := by decide +kernel
theorem dJ9_max_f86c9_6 : decode cJ9_max_f86c9 6 = .ok (.lload_n 0, 1) := by decide +kernel
theorem dJ9_max_f86c9_7 : decode cJ9_max_f86c9 7 = .ok (.goto 4, 3) := by decide +kernel
theorem dJ9_max_f86c9_10 : decode cJ9_max_f86c9 10 = .ok (.lload_n 2, 1) := by decide +kernel
theorem dJ9_max_f86c9_11 : decode cJ9_max_f86c9 11 = .ok (.lreturn, 1) := by decide +kernel
theorem dJ7_fill_d0a16_0 : decode cJ7_fill_d0a16 0 = .ok (.iconst 0, 1) := by decide +kernel
theorem dJ7_fill_d0a16_1 : decode cJ7_fill_d0a16 1 = .ok (.istore_n 3, 1) := by decide +kernel
theorem dJ7_fill_d0a16_2 : decode cJ7_fill_d0a16 2 = .ok (.aload_n 0, 1) := by decide +kernel
theorem dJ7_fill_d0a16_3 : decode cJ7_fill_d0a16 3 = .ok (.arraylength, 1) := by decide +kernel
theorem dJ7_fill_d0a16_4 : decode cJ7_fill_d0a16 4 = .ok (.istore 4, 2) := by decide +kernel
theorem dJ7_fill_d0a16_6 : decode cJ7_fill_d0a16 6 = .ok (.iload_n 3, 1) := by decide +kernel
theorem dJ7_fill_d0a16_7 : decode cJ7_fill_d0a16 7 = .ok (.iload 4, 2) := by decide +kernel
theorem dJ7_fill_d0a16_9 : decode cJ7_fill_d0a16 9 = .ok (.if_icmp .ge 13, 3) := by decide +kernel
theorem dJ7_fill_d0a16_12 : decode cJ7_fill_d0a16 12 = .ok (.aload_n 0, 1) := by decide +kernel
theorem dJ7_fill_d0a16_13 : decode cJ7_fill_d0a16 13 = .ok (.iload_n 3, 1) := by decide +kernel
theorem dJ7_fill_d0a16_14 : decode cJ7_fill_d0a16 14 = .ok (.lload_n 1, 1) := by decide +kernel
theorem dJ7_fill_d0a16_15 : decode cJ7_fill_d0a16 15 = .ok (.lastore, 1) := by decide +kernel
theorem dJ7_fill_d0a16_16 : decode cJ7_fill_d0a16 16 = .ok (.iinc 3 1, 3) := by decide +kernel
theorem dJ7_fill_d0a16_19 : decode cJ7_fill_d0a16 19 = .ok (.goto (-13), 3) := by decide +kernel
theorem dJ7_fill_d0a16_22 : decode cJ7_fill_d0a16 22 = .ok (.return_, 1) := by decide +kernel
theorem dJ7_fill_53178_0 : decode cJ7_fill_53178 0 = .ok (.iconst 0, 1) := by decide +kernel
theorem dJ7_fill_53178_1 : decode cJ7_fill_53178 1 = .ok (.istore_n 2, 1) := by decide +kernel
theorem dJ7_fill_53178_2 : decode cJ7_fill_53178 2 = .ok (.aload_n 0, 1) := by decide +kernel
theorem dJ7_fill_53178_3 : decode cJ7_fill_53178 3 = .ok (.arraylength, 1) := by decide +kernel
theorem dJ7_fill_53178_4 : decode cJ7_fill_53178 4 = .ok (.istore_n 3, 1) := by decide +kernel
theorem dJ7_fill_53178_5 : decode cJ7_fill_53178 5 = .ok (.iload_n 2, 1) := by decide +kernel
theorem dJ7_fill_53178_6 : decode cJ7_fill_53178 6 = .ok (.iload_n 3, 1) := by decide +kernel
theorem dJ7_fill_53178_7 : decode cJ7_fill_53178 7 = .ok (.if_icmp .ge 13, 3) := by decide +kernel
theorem dJ7_fill_53178_10 : decode cJ7_fill_53178 10 = .ok (.aload_n 0, 1) := by decide +kernel
theorem dJ7_fill_53178_11 : decode cJ7_fill_53178 11 = .ok (.iload_n 2, 1) := by decide +kernel
theorem dJ7_fill_53178_12 : decode cJ7_fill_53178 12 = .ok (.iload_n 1, 1) := by decide +kernel
theorem dJ7_fill_53178_13 : decode cJ7_fill_53178 13 = .ok (.iastore, 1) := by decide +kernel
theorem dJ7_fill_53178_14 : decode cJ7_fill_53178 14 = .ok (.iinc 2 1, 3) := by decide +kernel
theorem dJ7_fill_53178_17 : decode cJ7_fill_53178 17 = .ok (.goto (-12), 3) := by decide +kernel
theorem dJ7_fill_53178_20 : decode cJ7_fill_53178 20 = .ok (.return_, 1) := by decide +kernel
set_option maxRecDepth 20000 in
theorem ggL_path_X5_path : GoodIn wsL_path wsX5_path := goodIn_ca (goodIn_r _ [6, 7, 8, 9, 10, 5, 11, 12, 13, 14, 15, 16, 17, 18, 19, 20, 21, 22, 23, 24, 25, 26, 27, 28, 29, 30, 31, 32, 33, 34, 35, 36, 37] (by decide +kernel) (by decide +kernel)) (goodIn_sub (fun _ h => List.mem_cons_of_mem _ (List.mem_append_right _ h)) (by decide +kernel))
set_option maxRecDepth 20000 in
theorem gL_path_X5_path : GoodIn wsL_path (wsV RL 7 RX5 yX5_path wsX5_path) := goodIn_app (goodIn_of _ (by decide +kernel)) ggL_path_X5_path

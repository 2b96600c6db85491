theorem dL_path_0 : decode cL_path 0 = .ok (.aload 5, 2) := by decide +kernel
theorem dL_path_2 : decode cL_path 2 = .ok (.iconst 0, 1) := by decide +kernel
theorem dL_path_3 : decode cL_path 3 = .ok (.aload_n 0, 1) := by decide +kernel
theorem dL_path_4 : decode cL_path 4 = .ok (.iload_n 1, 1) := by decide +kernel
theorem dL_path_5 : decode cL_path 5 = .ok (.iload_n 2, 1) := by decide +kernel
theorem dL_path_6 : decode cL_path 6 = .ok (.iload_n 3, 1) := by decide +kernel
theorem dL_path_7 : decode cL_path 7 = .ok (.iload 4, 2) := by decide +kernel
theorem dL_path_9 : decode cL_path 9 = .ok (.invokevirtual 7, 3) := by decide +kernel
theorem dL_path_12 : decode cL_path 12 = .ok (.i2l, 1) := by decide +kernel
theorem dL_path_13 : decode cL_path 13 = .ok (.lastore, 1) := by decide +kernel
theorem dL_path_14 : decode cL_path 14 = .ok (.goto 7, 3) := by decide +kernel
theorem dL_path_17 : decode cL_path 17 = .ok (.astore 6, 2) := by decide +kernel
theorem dL_path_19 : decode cL_path 19 = .ok (.iconst 1, 1) := by decide +kernel
theorem dL_path_20 : decode cL_path 20 = .ok (.ireturn, 1) := by decide +kernel
theorem dL_path_21 : decode cL_path 21 = .ok (.iconst 0, 1) := by decide +kernel
theorem dL_path_22 : decode cL_path 22 = .ok (.ireturn, 1) := by decide +kernel
set_option maxRecDepth 20000 in
theorem ggL_degree_X5_degree : GoodIn wsL_degree wsX5_degree := goodIn_ca (goodIn_r _ [6, 7, 8, 9, 10, 5, 11, 12, 13, 14, 15, 16, 17, 18, 19, 20, 21, 22, 23, 24, 25, 26, 27, 28, 29, 30] (by decide +kernel) (by decide +kernel)) (goodIn_sub (fun _ h => List.mem_cons_of_mem _ (List.mem_append_right _ h)) (by decide +kernel))
set_option maxRecDepth 20000 in
theorem gL_degree_X5_degree : GoodIn wsL_degree (wsV RL 15 RX5 yX5_degree wsX5_degree) := goodIn_app (goodIn_of _ (by decide +kernel)) ggL_degree_X5_degree
theorem dL_degree_0 : decode cL_degree 0 = .ok (.aload_n 3, 1) := by decide +kernel
theorem dL_degree_1 : decode cL_degree 1 = .ok (.iconst 0, 1) := by decide +kernel
theorem dL_degree_2 : decode cL_degree 2 = .ok (.aload_n 0, 1) := by decide +kernel
theorem dL_degree_3 : decode cL_degree 3 = .ok (.iload_n 1, 1) := by decide +kernel
theorem dL_degree_4 : decode cL_degree 4 = .ok (.iload_n 2, 1) := by decide +kernel
theorem dL_degree_5 : decode cL_degree 5 = .ok (.invokevirtual 15, 3) := by decide +kernel
theorem dL_degree_8 : decode cL_degree 8 = .ok (.i2l, 1) := by decide +kernel
theorem dL_degree_9 : decode cL_degree 9 = .ok (.lastore, 1) := by decide +kernel
theorem dL_degree_10 : decode cL_degree 10 = .ok (.goto 7, 3) := by decide +kernel
theorem dL_degree_13 : decode cL_degree 13 = .ok (.astore 4, 2) := by decide +kernel
theorem dL_degree_15 : decode cL_degree 15 = .ok (.iconst 1, 1) := by decide +kernel
theorem dL_degree_16 : decode cL_degree 16 = .ok (.ireturn, 1) := by decide +kernel
theorem dL_degree_17 : decode cL_degree 17 = .ok (.iconst 0, 1) := by decide +kernel
theorem dL_degree_18 : decode cL_degree 18 = .ok (.ireturn, 1) := by decide +kernel
set_option maxRecDepth 20000 in
theorem ggL_whole_X5_whole : GoodIn wsL_whole wsX5_whole := goodIn_ca (goodIn_r _ [6, 7, 8, 9, 5, 10, 11, 12, 13, 14, 15, 16, 17, 18, 19, 20, 21, 22, 23, 24, 25, 26, 27, 28, 29, 30, 31, 32, 33, 34, 35, 36] (by decide +kernel) (by decide +kernel)) (goodIn_sub (fun _ h => List.mem_cons_of_mem _ (List.mem_append_right _ h)) (by decide +kernel))
set_option maxRecDepth 20000 in
theorem gL_whole_X5_whole : GoodIn wsL_whole (wsV RL 19 RX5 yX5_whole wsX5_whole) := goodIn_app (goodIn_of _ (by decide +kernel)) ggL_whole_X5_whole
theorem dL_whole_0 : decode cL_whole 0 = .ok (.aload_n 2, 1) := by decide +kernel
theorem dL_whole_1 : decode cL_whole 1 = .ok (.iconst 0, 1) := by decide +kernel
theorem dL_whole_2 : decode cL_whole 2 = .ok (.aload_n 0, 1) := by decide +kernel
theorem dL_whole_3 : decode cL_whole 3 = .ok (.iload_n 1, 1) := by decide +kernel
theorem dL_whole_4 : decode cL_whole 4 = .ok (.invokevirtual 19, 3) := by decide +kernel
theorem dL_whole_7 : decode cL_whole 7 = .ok (.ifCond .eq 7, 3) := by decide +kernel
theorem dL_whole_10 : decode cL_whole 10 = .ok (.lconst 1, 1) := by decide +kernel
theorem dL_whole_11 : decode cL_whole 11 = .ok (.goto 4, 3) := by decide +kernel
theorem dL_whole_14 : decode cL_whole 14 = .ok (.lconst 0, 1) := by decide +kernel
theorem dL_whole_15 : decode cL_whole 15 = .ok (.lastore, 1) := by decide +kernel
theorem dL_whole_16 : decode cL_whole 16 = .ok (.goto 6, 3) := by decide +kernel
theorem dL_whole_19 : decode cL_whole 19 = .ok (.astore_n 3, 1) := by decide +kernel
theorem dL_whole_20 : decode cL_whole 20 = .ok (.iconst 1, 1) := by decide +kernel
theorem dL_whole_21 : decode cL_whole 21 = .ok (.ireturn, 1) := by decide +kernel
theorem dL_whole_22 : decode cL_whole 22 = .ok (.iconst 0, 1) := by decide +kernel
theorem dL_whole_23 : decode cL_whole 23 = .ok (.ireturn, 1) := by decide +kernel
set_option maxRecDepth 20000 in
theorem ggL_trees_X5_trees : GoodIn wsL_trees wsX5_trees := goodIn_ca (goodIn_r _ [6, 7, 8, 9, 10, 5, 11, 12, 13, 14, 15, 16, 17, 18, 19, 20, 21, 22, 23, 24, 25, 26, 27, 28, 29, 30, 31, 32, 33, 34, 35, 36, 37, 38, 39, 40, 41, 42, 43, 44, 45, 46, 47, 48, 49, 50, 51, 52, 53, 54, 55, 56, 57, 58, 59, 60, 61, 62, 63, 64, 65] (by decide +kernel) (by decide +kernel)) (goodIn_sub (fun _ h => List.mem_cons_of_mem _ (List.mem_append_right _ h)) (by decide +kernel))
set_option maxRecDepth 20000 in
theorem gL_trees_X5_trees : GoodIn wsL_trees (wsV RL 23 RX5 yX5_trees wsX5_trees) := goodIn_app (goodIn_of _ (by decide +kernel)) ggL_trees_X5_trees
theorem dL_trees_0 : decode cL_trees 0 = .ok (.aload_n 2, 1) := by decide +kernel
theorem dL_trees_1 : decode cL_trees 1 = .ok (.iconst 0, 1) := by decide +kernel
theorem dL_trees_2 : decode cL_trees 2 = .ok (.aload_n 0, 1) := by decide +kernel
theorem dL_trees_3 : decode cL_trees 3 = .ok (.iload_n 1, 1) := by decide +kernel
theorem dL_trees_4 : decode cL_trees 4 = .ok (.invokevirtual 23, 3) := by decide +kernel
theorem dL_trees_7 : decode cL_trees 7 = .ok (.lastore, 1) := by decide +kernel
theorem dL_trees_8 : decode cL_trees 8 = .ok (.goto 6, 3) := by decide +kernel
theorem dL_trees_11 : decode cL_trees 11 = .ok (.astore_n 3, 1) := by decide +kernel
theorem dL_trees_12 : decode cL_trees 12 = .ok (.iconst 1, 1) := by decide +kernel
theorem dL_trees_13 : decode cL_trees 13 = .ok (.ireturn, 1) := by decide +kernel
theorem dL_trees_14 : decode cL_trees 14 = .ok (.iconst 0, 1) := by decide +kernel
theorem dL_trees_15 : decode cL_trees 15 = .ok (.ireturn, 1) := by decide +kernel
set_option maxRecDepth 20000 in
theorem ggL_part_X5_part : GoodIn wsL_part wsX5_part := goodIn_ca (goodIn_ca (goodIn_r _ [7, 8, 9, 10, 11, 12, 13, 14, 15, 16, 6, 17, 18, 19, 20, 21, 22, 23, 24, 25, 26, 27, 28, 29, 30, 31, 32, 33, 34, 35, 36, 37, 38, 39, 40, 41, 42, 43, 44, 45, 46, 47, 48, 49, 50, 51, 52, 53, 54, 55, 56, 57, 58, 59, 60, 61, 62, 63, 64, 65, 66, 67, 68, 69, 70, 71, 72, 73, 74, 75, 76, 77, 78, 79, 80, 81, 82, 83, 84, 85, 86, 87, 88, 89, 90, 91, 92, 93, 94, 95, 96, 97, 98, 99, 100, 101, 102, 103, 104, 105, 106, 107, 108, 109, 110, 111, 112, 113, 114, 115, 116, 117, 118, 119, 120, 121, 122, 123, 124, 125, 126, 127, 128, 129, 130, 131, 132, 133, 134, 135, 136, 137, 138, 139, 140] (by decide +kernel) (by decide +kernel)) (goodIn_sub (fun _ h => List.mem_cons_of_mem _ (List.mem_append_left _ (List.mem_append_right _ h))) (by decide +kernel))) (goodIn_sub (fun _ h => List.mem_cons_of_mem _ (List.mem_append_right _ h)) (by decide +kernel))
set_option maxRecDepth 20000 in
theorem gL_part_X5_part : GoodIn wsL_part (wsV RL 27 RX5 yX5_part wsX5_part) := goodIn_app (goodIn_of _ (by decide +kernel)) ggL_part_X5_part
theorem dL_part_0 : decode cL_part 0 = .ok (.aload_n 3, 1) := by decide +kernel
theorem dL_part_1 : decode cL_part 1 = .ok (.iconst 0, 1) := by decide +kernel
theorem dL_part_2 : decode cL_part 2 = .ok (.aload_n 0, 1) := by decide +kernel
theorem dL_part_3 : decode cL_part 3 = .ok (.iload_n 1, 1) := by decide +kernel
theorem dL_part_4 : decode cL_part 4 = .ok (.iload_n 2, 1) := by decide +kernel
theorem dL_part_5 : decode cL_part 5 = .ok (.invokevirtual 27, 3) := by decide +kernel
theorem dL_part_8 : decode cL_part 8 = .ok (.lastore, 1) := by decide +kernel
theorem dL_part_9 : decode cL_part 9 = .ok (.goto 11, 3) := by decide +kernel
theorem dL_part_12 : decode cL_part 12 = .ok (.astore 4, 2) := by decide +kernel
theorem dL_part_14 : decode cL_part 14 = .ok (.iconst 1, 1) := by decide +kernel
theorem dL_part_15 : decode cL_part 15 = .ok (.ireturn, 1) := by decide +kernel
theorem dL_part_16 : decode cL_part 16 = .ok (.astore 4, 2) := by decide +kernel
theorem dL_part_18 : decode cL_part 18 = .ok (.iconst 2, 1) := by decide +kernel
theorem dL_part_19 : decode cL_part 19 = .ok (.ireturn, 1) := by decide +kernel
theorem dL_part_20 : decode cL_part 20 = .ok (.iconst 0, 1) := by decide +kernel
theorem dL_part_21 : decode cL_part 21 = .ok (.ireturn, 1) := by decide +kernel
set_option maxRecDepth 20000 in
theorem ggL_heap_X5_heap : GoodIn wsL_heap wsX5_heap := goodIn_ca (goodIn_r _ [6, 7, 8, 9, 10, 11, 12, 13, 14, 15, 5, 16, 17, 18, 19, 20, 21, 22, 23, 24, 25, 26, 27, 28, 29, 30, 31, 32, 33, 34, 35, 36, 37, 38, 39, 40, 41, 42, 43, 44, 45, 46, 47, 48, 49, 50, 51, 52, 53, 54, 55] (by decide +kernel) (by decide +kernel)) (goodIn_sub (fun _ h => List.mem_cons_of_mem _ (List.mem_append_right _ h)) (by decide +kernel))
set_option maxRecDepth 20000 in
theorem gL_heap_X5_heap : GoodIn wsL_heap (wsV RL 33 RX5 yX5_heap wsX5_heap) := goodIn_app (goodIn_of _ (by decide +kernel)) ggL_heap_X5_heap
theorem dL_heap_0 : decode cL_heap 0 = .ok (.aload_n 2, 1) := by decide +kernel
theorem dL_heap_1 : decode cL_heap 1 = .ok (.iconst 0, 1) := by decide +kernel
theorem dL_heap_2 : decode cL_heap 2 = .ok (.aload_n 0, 1) := by decide +kernel
theorem dL_heap_3 : decode cL_heap 3 = .ok (.iload_n 1, 1) := by decide +kernel
theorem dL_heap_4 : decode cL_heap 4 = .ok (.invokevirtual 33, 3) := by decide +kernel
theorem dL_heap_7 : decode cL_heap 7 = .ok (.i2l, 1) := by decide +kernel
theorem dL_heap_8 : decode cL_heap 8 = .ok (.lastore, 1) := by decide +kernel
theorem dL_heap_9 : decode cL_heap 9 = .ok (.goto 6, 3) := by decide +kernel
theorem dL_heap_12 : decode cL_heap 12 = .ok (.astore_n 3, 1) := by decide +kernel
theorem dL_heap_13 : decode cL_heap 13 = .ok (.iconst 1, 1) := by decide +kernel
theorem dL_heap_14 : decode cL_heap 14 = .ok (.ireturn, 1) := by decide +kernel
theorem dL_heap_15 : decode cL_heap 15 = .ok (.iconst 0, 1) := by decide +kernel
theorem dL_heap_16 : decode cL_heap 16 = .ok (.ireturn, 1) := by decide +kernel
set_option maxRecDepth 20000 in
theorem ggL_set_X5_set : GoodIn wsL_set wsX5_set := goodIn_ca (goodIn_ca (goodIn_r _ [7, 8, 9, 10, 11, 12, 13, 14, 15, 6, 16, 17, 18, 19, 20, 21, 22, 23, 24, 25, 26, 27, 28, 29, 30, 31, 32, 33, 34, 35, 36, 37, 38] (by decide +kernel) (by decide +kernel)) (goodIn_sub (fun _ h => List.mem_cons_of_mem _ (List.mem_append_left _ (List.mem_append_right _ h))) (by decide +kernel))) (goodIn_sub (fun _ h => List.mem_cons_of_mem _ (List.mem_append_right _ h)) (by decide +kernel))
set_option maxRecDepth 20000 in
theorem gL_set_X5_set : GoodIn wsL_set (wsV RL 37 RX5 yX5_set wsX5_set) := goodIn_app (goodIn_of _ (by decide +kernel)) ggL_set_X5_set
theorem dL_set_0 : decode cL_set 0 = .ok (.aload 4, 2) := by decide +kernel
theorem dL_set_2 : decode cL_set 2 = .ok (.iconst 0, 1) := by decide +kernel
theorem dL_set_3 : decode cL_set 3 = .ok (.aload_n 0, 1) := by decide +kernel
theorem dL_set_4 : decode cL_set 4 = .ok (.iload_n 1, 1) := by decide +kernel
theorem dL_set_5 : decode cL_set 5 = .ok (.iload_n 2, 1) := by decide +kernel
theorem dL_set_6 : decode cL_set 6 = .ok (.iload_n 3, 1) := by decide +kernel
theorem dL_set_7 : decode cL_set 7 = .ok (.invokevirtual 37, 3) := by decide +kernel
theorem dL_set_10 : decode cL_set 10 = .ok (.i2l, 1) := by decide +kernel
theorem dL_set_11 : decode cL_set 11 = .ok (.lastore, 1) := by decide +kernel
theorem dL_set_12 : decode cL_set 12 = .ok (.goto 11, 3) := by decide +kernel
theorem dL_set_15 : decode cL_set 15 = .ok (.astore 5, 2) := by decide +kernel
theorem dL_set_17 : decode cL_set 17 = .ok (.iconst 1, 1) := by decide +kernel
theorem dL_set_18 : decode cL_set 18 = .ok (.ireturn, 1) := by decide +kernel
theorem dL_set_19 : decode cL_set 19 = .ok (.astore 5, 2) := by decide +kernel
theorem dL_set_21 : decode cL_set 21 = .ok (.iconst 2, 1) := by decide +kernel
theorem dL_set_22 : decode cL_set 22 = .ok (.ireturn, 1) := by decide +kernel
theorem dL_set_23 : decode cL_set 23 = .ok (.iconst 0, 1) := by decide +kernel
theorem dL_set_24 : decode cL_set 24 = .ok (.ireturn, 1) := by decide +kernel
set_option maxRecDepth 20000 in
theorem ggL_grains_X5_grains : GoodIn wsL_grains wsX5_grains := goodIn_ca (goodIn_r _ [6, 7, 8, 9, 10, 11, 5, 12, 13, 14, 15, 16, 17, 18, 19, 20, 21, 22, 23, 24, 25, 26, 27, 28, 29, 30, 31, 32, 33, 34] (by decide +kernel) (by decide +kernel)) (goodIn_sub (fun _ h => List.mem_cons_of_mem _ (List.mem_append_right _ h)) (by decide +kernel))
set_option maxRecDepth 20000 in
theorem gL_grains_X5_grains : GoodIn wsL_grains (wsV RL 43 RX5 yX5_grains wsX5_grains) := goodIn_app (goodIn_of _ (by decide +kernel)) ggL_grains_X5_grains
theorem dL_grains_0 : decode cL_grains 0 = .ok (.aload_n 3, 1) := by decide +kernel
theorem dL_grains_1 : decode cL_grains 1 = .ok (.iconst 0, 1) := by decide +kernel
theorem dL_grains_2 : decode cL_grains 2 = .ok (.aload_n 0, 1) := by decide +kernel
theorem dL_grains_3 : decode cL_grains 3 = .ok (.iload_n 1, 1) := by decide +kernel
theorem dL_grains_4 : decode cL_grains 4 = .ok (.iload_n 2, 1) := by decide +kernel
theorem dL_grains_5 : decode cL_grains 5 = .ok (.invokevirtual 43, 3) := by decide +kernel
theorem dL_grains_8 : decode cL_grains 8 = .ok (.lastore, 1) := by decide +kernel
theorem dL_grains_9 : decode cL_grains 9 = .ok (.goto 7, 3) := by decide +kernel
theorem dL_grains_12 : decode cL_grains 12 = .ok (.astore 4, 2) := by decide +kernel
theorem dL_grains_14 : decode cL_grains 14 = .ok (.iconst 1, 1) := by decide +kernel
theorem dL_grains_15 : decode cL_grains 15 = .ok (.ireturn, 1) := by decide +kernel
theorem dL_grains_16 : decode cL_grains 16 = .ok (.iconst 0, 1) := by decide +kernel
theorem dL_grains_17 : decode cL_grains 17 = .ok (.ireturn, 1) := by decide +kernel
set_option maxRecDepth 20000 in
theorem ggL_topple_X5_topple : GoodIn wsL_topple wsX5_topple := goodIn_ca (goodIn_r _ [6, 7, 8, 9, 10, 11, 12, 5, 13, 14, 15, 16, 17, 18, 19, 20, 21, 22, 23, 24, 25, 26, 27, 28, 29, 30, 31, 32, 33, 34, 35, 36, 37, 38, 39, 40, 41, 42, 43] (by decide +kernel) (by decide +kernel)) (goodIn_sub (fun _ h => List.mem_cons_of_mem _ (List.mem_append_right _ h)) (by decide +kernel))
set_option maxRecDepth 20000 in
theorem gL_topple_X5_topple : GoodIn wsL_topple (wsV RL 46 RX5 yX5_topple wsX5_topple) := goodIn_app (goodIn_of _ (by decide +kernel)) ggL_topple_X5_topple
theorem dL_topple_0 : decode cL_topple 0 = .ok (.aload_n 3, 1) := by decide +kernel
theorem dL_topple_1 : decode cL_topple 1 = .ok (.iconst 0, 1) := by decide +kernel
theorem dL_topple_2 : decode cL_topple 2 = .ok (.aload_n 0, 1) := by decide +kernel
theorem dL_topple_3 : decode cL_topple 3 = .ok (.iload_n 1, 1) := by decide +kernel
theorem dL_topple_4 : decode cL_topple 4 = .ok (.iload_n 2, 1) := by decide +kernel
theorem dL_topple_5 : decode cL_topple 5 = .ok (.invokevirtual 46, 3) := by decide +kernel
theorem dL_topple_8 : decode cL_topple 8 = .ok (.ifCond .eq 7, 3) := by decide +kernel
theorem dL_topple_11 : decode cL_topple 11 = .ok (.lconst 1, 1) := by decide +kernel
theorem dL_topple_12 : decode cL_topple 12 = .ok (.goto 4, 3) := by decide +kernel
theorem dL_topple_15 : decode cL_topple 15 = .ok (.lconst 0, 1) := by decide +kernel
theorem dL_topple_16 : decode cL_topple 16 = .ok (.lastore, 1) := by decide +kernel
theorem dL_topple_17 : decode cL_topple 17 = .ok (.goto 7, 3) := by decide +kernel
theorem dL_topple_20 : decode cL_topple 20 = .ok (.astore 4, 2) := by decide +kernel
theorem dL_topple_22 : decode cL_topple 22 = .ok (.iconst 1, 1) := by decide +kernel
theorem dL_topple_23 : decode cL_topple 23 = .ok (.ireturn, 1) := by decide +kernel
theorem dL_topple_24 : decode cL_topple 24 = .ok (.iconst 0, 1) := by decide +kernel
theorem dL_topple_25 : decode cL_topple 25 = .ok (.ireturn, 1) := by decide +kernel
set_option maxRecDepth 20000 in
theorem ggL_settle_X5_settle : GoodIn wsL_settle wsX5_settle := goodIn_ca (goodIn_r _ [6, 7, 8, 9, 5, 10, 11, 12, 13, 14, 15, 16, 17, 18, 19, 20, 21, 22, 23, 24, 25, 26, 27, 28, 29, 30, 31, 32, 33, 34, 35, 36, 37, 38, 39, 40, 41, 42, 43, 44, 45, 46, 47, 48, 49, 50, 51, 52, 53, 54, 55, 56, 57] (by decide +kernel) (by decide +kernel)) (goodIn_sub (fun _ h => List.mem_cons_of_mem _ (List.mem_append_right _ h)) (by decide +kernel))
set_option maxRecDepth 20000 in
theorem gL_settle_X5_settle : GoodIn wsL_settle (wsV RL 50 RX5 yX5_settle wsX5_settle) := goodIn_app (goodIn_of _ (by decide +kernel)) ggL_settle_X5_settle
theorem dL_settle_0 : decode cL_settle 0 = .ok (.aload_n 2, 1) := by decide +kernel
theorem dL_settle_1 : decode cL_settle 1 = .ok (.iconst 0, 1) := by decide +kernel
theorem dL_settle_2 : decode cL_settle 2 = .ok (.aload_n 0, 1) := by decide +kernel
theorem dL_settle_3 : decode cL_settle 3 = .ok (.iload_n 1, 1) := by decide +kernel
theorem dL_settle_4 : decode cL_settle 4 = .ok (.invokevirtual 50, 3) := by decide +kernel
theorem dL_settle_7 : decode cL_settle 7 = .ok (.lastore, 1) := by decide +kernel
theorem dL_settle_8 : decode cL_settle 8 = .ok (.goto 6, 3) := by decide +kernel
theorem dL_settle_11 : decode cL_settle 11 = .ok (.astore_n 3, 1) := by decide +kernel
theorem dL_settle_12 : decode cL_settle 12 = .ok (.iconst 1, 1) := by decide +kernel
theorem dL_settle_13 : decode cL_settle 13 = .ok (.ireturn, 1) := by decide +kernel
theorem dL_settle_14 : decode cL_settle 14 = .ok (.iconst 0, 1) := by decide +kernel
theorem dL_settle_15 : decode cL_settle 15 = .ok (.ireturn, 1) := by decide +kernel
set_option maxRecDepth 20000 in
theorem ggL_drop_X5_drop : GoodIn wsL_drop wsX5_drop := goodIn_ca (goodIn_r _ [6, 7, 8, 9, 10, 11, 5, 12, 13, 14, 15, 16, 17, 18, 19, 20, 21, 22, 23, 24, 25, 26, 27, 28, 29, 30, 31, 32, 33, 34, 35, 36, 37, 38, 39, 40, 41, 42, 43, 44, 45, 46, 47, 48, 49, 50, 51, 52, 53, 54, 55, 56, 57, 58, 59, 60, 61, 62, 63] (by decide +kernel) (by decide +kernel)) (goodIn_sub (fun _ h => List.mem_cons_of_mem _ (List.mem_append_right _ h)) (by decide +kernel))
set_option maxRecDepth 20000 in
theorem gL_drop_X5_drop : GoodIn wsL_drop (wsV RL 53 RX5 yX5_drop wsX5_drop) := goodIn_app (goodIn_of _ (by decide +kernel)) ggL_drop_X5_drop
theorem dL_drop_0 : decode cL_drop 0 = .ok (.aload_n 3, 1) := by decide +kernel
theorem dL_drop_1 : decode cL_drop 1 = .ok (.iconst 0, 1) := by decide +kernel
theorem dL_drop_2 : decode cL_drop 2 = .ok (.aload_n 0, 1) := by decide +kernel
theorem dL_drop_3 : decode cL_drop 3 = .ok (.iload_n 1, 1) := by decide +kernel
theorem dL_drop_4 : decode cL_drop 4 = .ok (.iload_n 2, 1) := by decide +kernel
theorem dL_drop_5 : decode cL_drop 5 = .ok (.invokevirtual 53, 3) := by decide +kernel
theorem dL_drop_8 : decode cL_drop 8 = .ok (.lastore, 1) := by decide +kernel
theorem dL_drop_9 : decode cL_drop 9 = .ok (.goto 7, 3) := by decide +kernel
theorem dL_drop_12 : decode cL_drop 12 = .ok (.astore 4, 2) := by decide +kernel
theorem dL_drop_14 : decode cL_drop 14 = .ok (.iconst 1, 1) := by decide +kernel
theorem dL_drop_15 : decode cL_drop 15 = .ok (.ireturn, 1) := by decide +kernel
theorem dL_drop_16 : decode cL_drop 16 = .ok (.iconst 0, 1) := by decide +kernel
theorem dL_drop_17 : decode cL_drop 17 = .ok (.ireturn, 1) := by decide +kernel
set_option maxRecDepth 20000 in
theorem ggL_toppled_X5_toppled : GoodIn wsL_toppled wsX5_toppled := goodIn_ca (goodIn_r _ [6, 7, 8, 9, 10, 11, 5, 12, 13, 14, 15, 16, 17, 18, 19, 20, 21, 22, 23, 24, 25, 26, 27, 28, 29, 30, 31, 32, 33, 34] (by decide +kernel) (by decide +kernel)) (goodIn_sub (fun _ h => List.mem_cons_of_mem _ (List.mem_append_right _ h)) (by decide +kernel))
set_option maxRecDepth 20000 in
theorem gL_toppled_X5_toppled : GoodIn wsL_toppled (wsV RL 56 RX5 yX5_toppled wsX5_toppled) := goodIn_app (goodIn_of _ (by decide +kernel)) ggL_toppled_X5_toppled
theorem dL_toppled_0 : decode cL_toppled 0 = .ok (.aload_n 3, 1) := by decide +kernel
theorem dL_toppled_1 : decode cL_toppled 1 = .ok (.iconst 0, 1) := by decide +kernel
theorem dL_toppled_2 : decode cL_toppled 2 = .ok (.aload_n 0, 1) := by decide +kernel
theorem dL_toppled_3 : decode cL_toppled 3 = .ok (.iload_n 1, 1) := by decide +kernel
theorem dL_toppled_4 : decode cL_toppled 4 = .ok (.iload_n 2, 1) := by decide +kernel
theorem dL_toppled_5 : decode cL_toppled 5 = .ok (.invokevirtual 56, 3) := by decide +kernel
theorem dL_toppled_8 : decode cL_toppled 8 = .ok (.lastore, 1) := by decide +kernel
theorem dL_toppled_9 : decode cL_toppled 9 = .ok (.goto 7, 3) := by decide +kernel
theorem dL_toppled_12 : decode cL_toppled 12 = .ok (.astore 4, 2) := by decide +kernel
theorem dL_toppled_14 : decode cL_toppled 14 = .ok (.iconst 1, 1) := by decide +kernel
theorem dL_toppled_15 : decode cL_toppled 15 = .ok (.ireturn, 1) := by decide +kernel
theorem dL_toppled_16 : decode cL_toppled 16 = .ok (.iconst 0, 1) := by decide +kernel
theorem dL_toppled_17 : decode cL_toppled 17 = .ok (.ireturn, 1) := by decide +kernel
set_option maxRecDepth 20000 in
theorem ggL_is_X5_is : GoodIn wsL_is wsX5_is := goodIn_ca (goodIn_r _ [6, 7, 8, 9, 10, 11, 12, 13, 14, 5, 15, 16, 17, 18, 19, 20, 21, 22, 23, 24, 25, 26, 27, 28, 29, 30, 31, 32, 33, 34, 35, 36, 37, 38, 39, 40, 41, 42, 43, 44, 45, 46, 47, 48, 49, 50, 51, 52, 53, 54, 55, 56, 57, 58, 59, 60, 61] (by decide +kernel) (by decide +kernel)) (goodIn_sub (fun _ h => List.mem_cons_of_mem _ (List.mem_append_right _ h)) (by decide +kernel))
set_option maxRecDepth 20000 in
theorem gL_is_X5_is : GoodIn wsL_is (wsV RL 59 RX5 yX5_is wsX5_is) := goodIn_app (goodIn_of _ (by decide +kernel)) ggL_is_X5_is
theorem dL_is_0 : decode cL_is 0 = .ok (.aload_n 3, 1) := by decide +kernel
theorem dL_is_1 : decode cL_is 1 = .ok (.iconst 0, 1) := by decide +kernel
theorem dL_is_2 : decode cL_is 2 = .ok (.aload_n 0, 1) := by decide +kernel
theorem dL_is_3 : decode cL_is 3 = .ok (.iload_n 1, 1) := by decide +kernel
theorem dL_is_4 : decode cL_is 4 = .ok (.iload_n 2, 1) := by decide +kernel
theorem dL_is_5 : decode cL_is 5 = .ok (.invokevirtual 59, 3) := by decide +kernel
theorem dL_is_8 : decode cL_is 8 = .ok (.ifCond .eq 7, 3) := by decide +kernel
theorem dL_is_11 : decode cL_is 11 = .ok (.lconst 1, 1) := by decide +kernel
theorem dL_is_12 : decode cL_is 12 = .ok (.goto 4, 3) := by decide +kernel
theorem dL_is_15 : decode cL_is 15 = .ok (.lconst 0, 1) := by decide +kernel
theorem dL_is_16 : decode cL_is 16 = .ok (.lastore, 1) := by decide +kernel
theorem dL_is_17 : decode cL_is 17 = .ok (.goto 7, 3) := by decide +kernel
theorem dL_is_20 : decode cL_is 20 = .ok (.astore 4, 2) := by decide +kernel
theorem dL_is_22 : decode cL_is 22 = .ok (.iconst 1, 1) := by decide +kernel
theorem dL_is_23 : decode cL_is 23 = .ok (.ireturn, 1) := by decide +kernel
theorem dL_is_24 : decode cL_is 24 = .ok (.iconst 0, 1) := by decide +kernel
theorem dL_is_25 : decode cL_is 25 = .ok (.ireturn, 1) := by decide +kernel
set_option maxRecDepth 20000 in
theorem ggL_burns_X5_burns : GoodIn wsL_burns wsX5_burns := goodIn_ca (goodIn_r _ [6, 7, 8, 9, 10, 11, 12, 13, 5, 14, 15, 16, 17, 18, 19, 20, 21, 22, 23, 24, 25, 26, 27, 28, 29, 30, 31, 32, 33, 34, 35, 36, 37, 38, 39, 40, 41, 42, 43, 44, 45, 46, 47, 48, 49, 50, 51, 52, 53, 54, 55, 56, 57, 58, 59, 60, 61, 62, 63, 64, 65] (by decide +kernel) (by decide +kernel)) (goodIn_sub (fun _ h => List.mem_cons_of_mem _ (List.mem_append_right _ h)) (by decide +kernel))
set_option maxRecDepth 20000 in
theorem gL_burns_X5_burns : GoodIn wsL_burns (wsV RL 62 RX5 yX5_burns wsX5_burns) := goodIn_app (goodIn_of _ (by decide +kernel)) ggL_burns_X5_burns
theorem dL_burns_0 : decode cL_burns 0 = .ok (.aload_n 3, 1) := by decide +kernel
theorem dL_burns_1 : decode cL_burns 1 = .ok (.iconst 0, 1) := by decide +kernel
theorem dL_burns_2 : decode cL_burns 2 = .ok (.aload_n 0, 1) := by decide +kernel
theorem dL_burns_3 : decode cL_burns 3 = .ok (.iload_n 1, 1) := by decide +kernel
theorem dL_burns_4 : decode cL_burns 4 = .ok (.iload_n 2, 1) := by decide +kernel
theorem dL_burns_5 : decode cL_burns 5 = .ok (.invokevirtual 62, 3) := by decide +kernel
theorem dL_burns_8 : decode cL_burns 8 = .ok (.i2l, 1) := by decide +kernel
theorem dL_burns_9 : decode cL_burns 9 = .ok (.lastore, 1) := by decide +kernel
theorem dL_burns_10 : decode cL_burns 10 = .ok (.goto 7, 3) := by decide +kernel
theorem dL_burns_13 : decode cL_burns 13 = .ok (.astore 4, 2) := by decide +kernel
theorem dL_burns_15 : decode cL_burns 15 = .ok (.iconst 1, 1) := by decide +kernel
theorem dL_burns_16 : decode cL_burns 16 = .ok (.ireturn, 1) := by decide +kernel
theorem dL_burns_17 : decode cL_burns 17 = .ok (.iconst 0, 1) := by decide +kernel
theorem dL_burns_18 : decode cL_burns 18 = .ok (.ireturn, 1) := by decide +kernel
set_option maxRecDepth 20000 in
theorem ggL_add_X5_add : GoodIn wsL_add wsX5_add := goodIn_ca (goodIn_ca (goodIn_r _ [7, 8, 9, 10, 11, 12, 13, 6, 14, 15, 16, 17, 18, 19, 20, 21, 22, 23, 24, 25, 26, 27, 28, 29, 30, 31, 32, 33, 34, 35, 36, 37, 38, 39, 40, 41, 42, 43, 44, 45, 46, 47, 48, 49, 50, 51, 52, 53, 54, 55, 56, 57, 58, 59, 60, 61, 62, 63, 64, 65, 66] (by decide +kernel) (by decide +kernel)) (goodIn_sub (fun _ h => List.mem_cons_of_mem _ (List.mem_append_left _ (List.mem_append_right _ h))) (by decide +kernel))) (goodIn_sub (fun _ h => List.mem_cons_of_mem _ (List.mem_append_right _ h)) (by decide +kernel))
set_option maxRecDepth 20000 in
theorem gL_add_X5_add : GoodIn wsL_add (wsV RL 65 RX5 yX5_add wsX5_add) := goodIn_app (goodIn_of _ (by decide +kernel)) ggL_add_X5_add
theorem dL_add_0 : decode cL_add 0 = .ok (.aload_n 3, 1) := by decide +kernel
theorem dL_add_1 : decode cL_add 1 = .ok (.iconst 0, 1) := by decide +kernel
theorem dL_add_2 : decode cL_add 2 = .ok (.aload_n 0, 1) := by decide +kernel
theorem dL_add_3 : decode cL_add 3 = .ok (.iload_n 1, 1) := by decide +kernel
theorem dL_add_4 : decode cL_add 4 = .ok (.iload_n 2, 1) := by decide +kernel
theorem dL_add_5 : decode cL_add 5 = .ok (.invokevirtual 65, 3) := by decide +kernel
theorem dL_add_8 : decode cL_add 8 = .ok (.lastore, 1) := by decide +kernel
theorem dL_add_9 : decode cL_add 9 = .ok (.goto 11, 3) := by decide +kernel
theorem dL_add_12 : decode cL_add 12 = .ok (.astore 4, 2) := by decide +kernel
theorem dL_add_14 : decode cL_add 14 = .ok (.iconst 1, 1) := by decide +kernel
theorem dL_add_15 : decode cL_add 15 = .ok (.ireturn, 1) := by decide +kernel
theorem dL_add_16 : decode cL_add 16 = .ok (.astore 4, 2) := by decide +kernel
theorem dL_add_18 : decode cL_add 18 = .ok (.iconst 2, 1) := by decide +kernel
theorem dL_add_19 : decode cL_add 19 = .ok (.ireturn, 1) := by decide +kernel
theorem dL_add_20 : decode cL_add 20 = .ok (.iconst 0, 1) := by decide +kernel
theorem dL_add_21 : decode cL_add 21 = .ok (.ireturn, 1) := by decide +kernel
set_option maxRecDepth 20000 in
theorem ggL_become_X5_become : GoodIn wsL_become wsX5_become := goodIn_ca (goodIn_r _ [6, 7, 8, 9, 10, 11, 12, 13, 14, 5, 15, 16, 17, 18, 19, 20, 21, 22, 23, 24, 25, 26, 27, 28, 29, 30, 31, 32, 33, 34, 35, 36, 37, 38, 39, 40, 41, 42, 43, 44, 45, 46, 47, 48, 49, 50, 51, 52, 53, 54, 55, 56, 57, 58, 59, 60, 61, 62, 63, 64, 65, 66, 67, 68, 69, 70, 71, 72, 73, 74, 75, 76, 77, 78, 79, 80, 81, 82, 83, 84, 85, 86, 87, 88, 89, 90, 91, 92, 93, 94, 95, 96, 97, 98, 99, 100] (by decide +kernel) (by decide +kernel)) (goodIn_sub (fun _ h => List.mem_cons_of_mem _ (List.mem_append_right _ h)) (by decide +kernel))
set_option maxRecDepth 20000 in
theorem gL_become_X5_become : GoodIn wsL_become (wsV RL 68 RX5 yX5_become wsX5_become) := goodIn_app (goodIn_of _ (by decide +kernel)) ggL_become_X5_become
theorem dL_become_0 : decode cL_become 0 = .ok (.aload_n 0, 1) := by decide +kernel
theorem dL_become_1 : decode cL_become 1 = .ok (.iload_n 1, 1) := by decide +kernel
theorem dL_become_2 : decode cL_become 2 = .ok (.iload_n 2, 1) := by decide +kernel
theorem dL_become_3 : decode cL_become 3 = .ok (.invokevirtual 68, 3) := by decide +kernel
theorem dL_become_6 : decode cL_become 6 = .ok (.goto 6, 3) := by decide +kernel
theorem dL_become_9 : decode cL_become 9 = .ok (.astore_n 3, 1) := by decide +kernel
theorem dL_become_10 : decode cL_become 10 = .ok (.iconst 1, 1) := by decide +kernel
theorem dL_become_11 : decode cL_become 11 = .ok (.ireturn, 1) := by decide +kernel
theorem dL_become_12 : decode cL_become 12 = .ok (.iconst 0, 1) := by decide +kernel
theorem dL_become_13 : decode cL_become 13 = .ok (.ireturn, 1) := by decide +kernel
set_option maxRecDepth 20000 in
theorem ggL_alike_X5_alike : GoodIn wsL_alike wsX5_alike := goodIn_ca (goodIn_ca (goodIn_r _ [7, 8, 9, 10, 11, 12, 13, 6, 14, 15, 16, 17, 18, 19, 20, 21, 22, 23, 24, 25, 26, 27, 28, 29, 30, 31, 32, 33, 34, 35, 36, 37, 38, 39, 40, 41, 42, 43, 44, 45, 46, 47, 48, 49, 50, 51, 52, 53, 54, 55, 56, 57, 58, 59, 60, 61, 62, 63, 64, 65, 66, 67, 68, 69, 70, 71, 72, 73, 74, 75, 76, 77, 78, 79, 80, 81, 82, 83, 84, 85, 86, 87, 88, 89, 90, 91, 92, 93, 94, 95, 96, 97, 98] (by decide +kernel) (by decide +kernel)) (goodIn_sub (fun _ h => List.mem_cons_of_mem _ (List.mem_append_left _ (List.mem_append_right _ h))) (by decide +kernel))) (goodIn_sub (fun _ h => List.mem_cons_of_mem _ (List.mem_append_right _ h)) (by decide +kernel))
set_option maxRecDepth 20000 in
theorem gL_alike_X5_alike : GoodIn wsL_alike (wsV RL 72 RX5 yX5_alike wsX5_alike) := goodIn_app (goodIn_of _ (by decide +kernel)) ggL_alike_X5_alike
theorem dL_alike_0 : decode cL_alike 0 = .ok (.aload_n 3, 1) := by decide +kernel
theorem dL_alike_1 : decode cL_alike 1 = .ok (.iconst 0, 1) := by decide +kernel
theorem dL_alike_2 : decode cL_alike 2 = .ok (.aload_n 0, 1) := by decide +kernel
theorem dL_alike_3 : decode cL_alike 3 = .ok (.iload_n 1, 1) := by decide +kernel
theorem dL_alike_4 : decode cL_alike 4 = .ok (.iload_n 2, 1) := by decide +kernel
theorem dL_alike_5 : decode cL_alike 5 = .ok (.invokevirtual 72, 3) := by decide +kernel
theorem dL_alike_8 : decode cL_alike 8 = .ok (.ifCond .eq 7, 3) := by decide +kernel
theorem dL_alike_11 : decode cL_alike 11 = .ok (.lconst 1, 1) := by decide +kernel
theorem dL_alike_12 : decode cL_alike 12 = .ok (.goto 4, 3) := by decide +kernel
theorem dL_alike_15 : decode cL_alike 15 = .ok (.lconst 0, 1) := by decide +kernel
theorem dL_alike_16 : decode cL_alike 16 = .ok (.lastore, 1) := by decide +kernel
theorem dL_alike_17 : decode cL_alike 17 = .ok (.goto 11, 3) := by decide +kernel
theorem dL_alike_20 : decode cL_alike 20 = .ok (.astore 4, 2) := by decide +kernel
theorem dL_alike_22 : decode cL_alike 22 = .ok (.iconst 1, 1) := by decide +kernel
theorem dL_alike_23 : decode cL_alike 23 = .ok (.ireturn, 1) := by decide +kernel
theorem dL_alike_24 : decode cL_alike 24 = .ok (.astore 4, 2) := by decide +kernel
theorem dL_alike_26 : decode cL_alike 26 = .ok (.iconst 2, 1) := by decide +kernel
theorem dL_alike_27 : decode cL_alike 27 = .ok (.ireturn, 1) := by decide +kernel
theorem dL_alike_28 : decode cL_alike 28 = .ok (.iconst 0, 1) := by decide +kernel
theorem dL_alike_29 : decode cL_alike 29 = .ok (.ireturn, 1) := by decide +kernel
set_option maxRecDepth 20000 in
theorem ggL_order_X5_order : GoodIn wsL_order wsX5_order := goodIn_ca (goodIn_r _ [6, 7, 8, 9, 10, 11, 12, 5, 13, 14, 15, 16, 17, 18, 19, 20, 21, 22, 23, 24, 25, 26, 27, 28, 29, 30, 31, 32, 33, 34, 35, 36, 37, 38, 39, 40, 41, 42, 43, 44, 45, 46, 47, 48, 49, 50, 51, 52, 53, 54, 55, 56, 57, 58, 59, 60, 61, 62, 63, 64, 65, 66, 67, 68, 69, 70, 71, 72, 73, 74, 75, 76, 77, 78, 79, 80, 81, 82, 83, 84, 85, 86, 87, 88, 89, 90, 91, 92, 93, 94, 95, 96, 97] (by decide +kernel) (by decide +kernel)) (goodIn_sub (fun _ h => List.mem_cons_of_mem _ (List.mem_append_right _ h)) (by decide +kernel))
set_option maxRecDepth 20000 in
theorem gL_order_X5_order : GoodIn wsL_order (wsV RL 75 RX5 yX5_order wsX5_order) := goodIn_app (goodIn_of _ (by decide +kernel)) ggL_order_X5_order
theorem dL_order_0 : decode cL_order 0 = .ok (.aload_n 2, 1) := by decide +kernel
theorem dL_order_1 : decode cL_order 1 = .ok (.iconst 0, 1) := by decide +kernel
theorem dL_order_2 : decode cL_order 2 = .ok (.aload_n 0, 1) := by decide +kernel
theorem dL_order_3 : decode cL_order 3 = .ok (.iload_n 1, 1) := by decide +kernel
theorem dL_order_4 : decode cL_order 4 = .ok (.invokevirtual 75, 3) := by decide +kernel
theorem dL_order_7 : decode cL_order 7 = .ok (.lastore, 1) := by decide +kernel
theorem dL_order_8 : decode cL_order 8 = .ok (.goto 6, 3) := by decide +kernel
theorem dL_order_11 : decode cL_order 11 = .ok (.astore_n 3, 1) := by decide +kernel
theorem dL_order_12 : decode cL_order 12 = .ok (.iconst 1, 1) := by decide +kernel
theorem dL_order_13 : decode cL_order 13 = .ok (.ireturn, 1) := by decide +kernel
theorem dL_order_14 : decode cL_order 14 = .ok (.iconst 0, 1) := by decide +kernel
theorem dL_order_15 : decode cL_order 15 = .ok (.ireturn, 1) := by decide +kernel
set_option maxRecDepth 20000 in
theorem ggL_tree_X5_tree : GoodIn wsL_tree wsX5_tree := goodIn_ca (goodIn_ca (goodIn_r _ [7, 8, 9, 10, 11, 12, 13, 14, 15, 16, 17, 6, 18, 19, 20, 21, 22, 23, 24, 25, 26, 27, 28, 29, 30, 31, 32, 33, 34, 35, 36, 37, 38, 39, 40, 41, 42, 43, 44, 45, 46, 47, 48, 49, 50, 51, 52, 53, 54, 55, 56, 57, 58, 59, 60, 61, 62, 63, 64, 65, 66, 67, 68, 69, 70, 71, 72, 73, 74, 75, 76, 77, 78, 79, 80] (by decide +kernel) (by decide +kernel)) (goodIn_sub (fun _ h => List.mem_cons_of_mem _ (List.mem_append_left _ (List.mem_append_right _ h))) (by decide +kernel))) (goodIn_sub (fun _ h => List.mem_cons_of_mem _ (List.mem_append_right _ h)) (by decide +kernel))
set_option maxRecDepth 20000 in
theorem gL_tree_X5_tree : GoodIn wsL_tree (wsV RL 78 RX5 yX5_tree wsX5_tree) := goodIn_app (goodIn_of _ (by decide +kernel)) ggL_tree_X5_tree
theorem dL_tree_0 : decode cL_tree 0 = .ok (.aload 4, 2) := by decide +kernel
theorem dL_tree_2 : decode cL_tree 2 = .ok (.iconst 0, 1) := by decide +kernel
theorem dL_tree_3 : decode cL_tree 3 = .ok (.aload_n 0, 1) := by decide +kernel
theorem dL_tree_4 : decode cL_tree 4 = .ok (.iload_n 1, 1) := by decide +kernel
theorem dL_tree_5 : decode cL_tree 5 = .ok (.iload_n 2, 1) := by decide +kernel
theorem dL_tree_6 : decode cL_tree 6 = .ok (.iload_n 3, 1) := by decide +kernel
theorem dL_tree_7 : decode cL_tree 7 = .ok (.invokevirtual 78, 3) := by decide +kernel
theorem dL_tree_10 : decode cL_tree 10 = .ok (.i2l, 1) := by decide +kernel
theorem dL_tree_11 : decode cL_tree 11 = .ok (.lastore, 1) := by decide +kernel
theorem dL_tree_12 : decode cL_tree 12 = .ok (.goto 11, 3) := by decide +kernel
theorem dL_tree_15 : decode cL_tree 15 = .ok (.astore 5, 2) := by decide +kernel
theorem dL_tree_17 : decode cL_tree 17 = .ok (.iconst 1, 1) := by decide +kernel
theorem dL_tree_18 : decode cL_tree 18 = .ok (.ireturn, 1) := by decide +kernel
theorem dL_tree_19 : decode cL_tree 19 = .ok (.astore 5, 2) := by decide +kernel
theorem dL_tree_21 : decode cL_tree 21 = .ok (.iconst 2, 1) := by decide +kernel
theorem dL_tree_22 : decode cL_tree 22 = .ok (.ireturn, 1) := by decide +kernel
theorem dL_tree_23 : decode cL_tree 23 = .ok (.iconst 0, 1) := by decide +kernel
theorem dL_tree_24 : decode cL_tree 24 = .ok (.ireturn, 1) := by decide +kernel
set_option maxRecDepth 20000 in
theorem ggL_grow_X5_grow : GoodIn wsL_grow wsX5_grow := goodIn_ca (goodIn_r _ [6, 7, 8, 9, 10, 11, 12, 13, 5, 14, 15, 16, 17, 18, 19, 20, 21, 22, 23, 24, 25, 26, 27, 28, 29, 30, 31, 32, 33, 34, 35, 36, 37, 38, 39, 40, 41, 42, 43, 44, 45, 46, 47, 48, 49, 50, 51, 52, 53, 54, 55, 56, 57, 58, 59, 60, 61, 62, 63, 64, 65, 66, 67, 68] (by decide +kernel) (by decide +kernel)) (goodIn_sub (fun _ h => List.mem_cons_of_mem _ (List.mem_append_right _ h)) (by decide +kernel))
set_option maxRecDepth 20000 in
theorem gL_grow_X5_grow : GoodIn wsL_grow (wsV RL 81 RX5 yX5_grow wsX5_grow) := goodIn_app (goodIn_of _ (by decide +kernel)) ggL_grow_X5_grow
theorem dL_grow_0 : decode cL_grow 0 = .ok (.aload 4, 2) := by decide +kernel
theorem dL_grow_2 : decode cL_grow 2 = .ok (.iconst 0, 1) := by decide +kernel
theorem dL_grow_3 : decode cL_grow 3 = .ok (.aload_n 0, 1) := by decide +kernel
theorem dL_grow_4 : decode cL_grow 4 = .ok (.iload_n 1, 1) := by decide +kernel
theorem dL_grow_5 : decode cL_grow 5 = .ok (.lload_n 2, 1) := by decide +kernel
theorem dL_grow_6 : decode cL_grow 6 = .ok (.invokevirtual 81, 3) := by decide +kernel
theorem dL_grow_9 : decode cL_grow 9 = .ok (.ifCond .eq 7, 3) := by decide +kernel
theorem dL_grow_12 : decode cL_grow 12 = .ok (.lconst 1, 1) := by decide +kernel
theorem dL_grow_13 : decode cL_grow 13 = .ok (.goto 4, 3) := by decide +kernel
theorem dL_grow_16 : decode cL_grow 16 = .ok (.lconst 0, 1) := by decide +kernel
theorem dL_grow_17 : decode cL_grow 17 = .ok (.lastore, 1) := by decide +kernel
theorem dL_grow_18 : decode cL_grow 18 = .ok (.goto 7, 3) := by decide +kernel
theorem dL_grow_21 : decode cL_grow 21 = .ok (.astore 5, 2) := by decide +kernel
theorem dL_grow_23 : decode cL_grow 23 = .ok (.iconst 1, 1) := by decide +kernel
theorem dL_grow_24 : decode cL_grow 24 = .ok (.ireturn, 1) := by decide +kernel
theorem dL_grow_25 : decode cL_grow 25 = .ok (.iconst 0, 1) := by decide +kernel
theorem dL_grow_26 : decode cL_grow 26 = .ok (.ireturn, 1) := by decide +kernel
set_option maxRecDepth 20000 in
theorem ggL_count_X5_count : GoodIn wsL_count wsX5_count := goodIn_ca (goodIn_r _ [6, 7, 8, 9, 10, 11, 12, 13, 14, 15, 16, 17] (by decide +kernel) (by decide +kernel)) (goodIn_sub (fun _ h => List.mem_cons_of_mem _ (List.mem_append_right _ h)) (by decide +kernel))
set_option maxRecDepth 20000 in
theorem gL_count_X5_count : GoodIn wsL_count (wsV RL 85 RX5 yX5_count wsX5_count) := goodIn_app (goodIn_of _ (by decide +kernel)) ggL_count_X5_count
theorem dL_count_0 : decode cL_count 0 = .ok (.aload_n 2, 1) := by decide +kernel
theorem dL_count_1 : decode cL_count 1 = .ok (.iconst 0, 1) := by decide +kernel
theorem dL_count_2 : decode cL_count 2 = .ok (.aload_n 0, 1) := by decide +kernel
theorem dL_count_3 : decode cL_count 3 = .ok (.iload_n 1, 1) := by decide +kernel
theorem dL_count_4 : decode cL_count 4 = .ok (.invokevirtual 85, 3) := by decide +kernel
theorem dL_count_7 : decode cL_count 7 = .ok (.i2l, 1) := by decide +kernel
theorem dL_count_8 : decode cL_count 8 = .ok (.lastore, 1) := by decide +kernel
theorem dL_count_9 : decode cL_count 9 = .ok (.goto 6, 3) := by decide +kernel
theorem dL_count_12 : decode cL_count 12 = .ok (.astore_n 3, 1) := by decide +kernel
theorem dL_count_13 : decode cL_count 13 = .ok (.iconst 1, 1) := by decide +kernel
theorem dL_count_14 : decode cL_count 14 = .ok (.ireturn, 1) := by decide +kernel
theorem dL_count_15 : decode cL_count 15 = .ok (.iconst 0, 1) := by decide +kernel
theorem dL_count_16 : decode cL_count 16 = .ok (.ireturn, 1) := by decide +kernel
set_option maxRecDepth 20000 in
theorem ggL_law_X5_init : GoodIn wsL_law wsX5_init := goodIn_r _ [10, 11, 12, 13, 14, 15, 16, 17, 18, 19, 20, 21, 22, 23, 24, 25, 26, 27, 28, 29, 30, 31, 32, 33, 34, 35, 36, 37, 38, 39, 40, 41, 6, 42, 43, 44, 45, 46, 47, 48, 49, 50, 51, 52, 53, 54, 55, 56, 57, 58, 699, 700, 701, 702, 703, 704, 705, 725, 726, 727, 728, 729, 730, 731, 732, 733, 734, 735, 736] (by decide +kernel) (by decide +kernel)

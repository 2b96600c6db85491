theorem dX6_determinant_154 : decode cX6_determinant 154 = .ok (.getfield 30, 3) := by decide +kernel
theorem dX6_determinant_157 : decode cX6_determinant 157 = .ok (.bipush 7, 2) := by decide +kernel
theorem dX6_determinant_159 : decode cX6_determinant 159 = .ok (.iload 6, 2) := by decide +kernel
theorem dX6_determinant_161 : decode cX6_determinant 161 = .ok (.imul, 1) := by decide +kernel
theorem dX6_determinant_162 : decode cX6_determinant 162 = .ok (.iload 9, 2) := by decide +kernel
theorem dX6_determinant_164 : decode cX6_determinant 164 = .ok (.iadd, 1) := by decide +kernel
theorem dX6_determinant_165 : decode cX6_determinant 165 = .ok (.laload, 1) := by decide +kernel
theorem dX6_determinant_166 : decode cX6_determinant 166 = .ok (.lmul, 1) := by decide +kernel
theorem dX6_determinant_167 : decode cX6_determinant 167 = .ok (.lsub, 1) := by decide +kernel
theorem dX6_determinant_168 : decode cX6_determinant 168 = .ok (.lload_n 2, 1) := by decide +kernel
theorem dX6_determinant_169 : decode cX6_determinant 169 = .ok (.ldiv, 1) := by decide +kernel
theorem dX6_determinant_170 : decode cX6_determinant 170 = .ok (.lastore, 1) := by decide +kernel
theorem dX6_determinant_171 : decode cX6_determinant 171 = .ok (.iinc 9 1, 3) := by decide +kernel
theorem dX6_determinant_174 : decode cX6_determinant 174 = .ok (.goto (-79), 3) := by decide +kernel
theorem dX6_determinant_177 : decode cX6_determinant 177 = .ok (.iinc 8 1, 3) := by decide +kernel
theorem dX6_determinant_180 : decode cX6_determinant 180 = .ok (.goto (-97), 3) := by decide +kernel
theorem dX6_determinant_183 : decode cX6_determinant 183 = .ok (.aload_n 0, 1) := by decide +kernel
theorem dX6_determinant_184 : decode cX6_determinant 184 = .ok (.getfield 30, 3) := by decide +kernel
theorem dX6_determinant_187 : decode cX6_determinant 187 = .ok (.bipush 7, 2) := by decide +kernel
theorem dX6_determinant_189 : decode cX6_determinant 189 = .ok (.iload 6, 2) := by decide +kernel
theorem dX6_determinant_191 : decode cX6_determinant 191 = .ok (.imul, 1) := by decide +kernel
theorem dX6_determinant_192 : decode cX6_determinant 192 = .ok (.iload 6, 2) := by decide +kernel
theorem dX6_determinant_194 : decode cX6_determinant 194 = .ok (.iadd, 1) := by decide +kernel
theorem dX6_determinant_195 : decode cX6_determinant 195 = .ok (.laload, 1) := by decide +kernel
theorem dX6_determinant_196 : decode cX6_determinant 196 = .ok (.lstore_n 2, 1) := by decide +kernel
theorem dX6_determinant_197 : decode cX6_determinant 197 = .ok (.iinc 6 1, 3) := by decide +kernel
theorem dX6_determinant_200 : decode cX6_determinant 200 = .ok (.goto (-192), 3) := by decide +kernel
theorem dX6_determinant_203 : decode cX6_determinant 203 = .ok (.lload 4, 2) := by decide +kernel
theorem dX6_determinant_205 : decode cX6_determinant 205 = .ok (.lload_n 2, 1) := by decide +kernel
theorem dX6_determinant_206 : decode cX6_determinant 206 = .ok (.lmul, 1) := by decide +kernel
theorem dX6_determinant_207 : decode cX6_determinant 207 = .ok (.lreturn, 1) := by decide +kernel
set_option maxRecDepth 20000 in
theorem ggX6_minor_X6_entry : GoodIn wsX6_minor wsX6_entry := goodIn_r _ [6, 7, 8, 9, 5, 10, 11, 12, 13, 14, 15, 16, 25, 26, 27, 28, 29, 30, 31, 32, 33, 34, 35, 36, 37, 38, 39, 40, 41, 42, 43] (by decide +kernel) (by decide +kernel)
set_option maxRecDepth 20000 in
theorem gX6_minor_X6_entry : GoodIn wsX6_minor (wsV RX6 94 RX6 yX6_entry wsX6_entry) := goodIn_app (goodIn_of _ (by decide +kernel)) ggX6_minor_X6_entry
set_option maxRecDepth 20000 in
theorem ggX6_minor_X6_determinant : GoodIn wsX6_minor wsX6_determinant := goodIn_r _ [20, 1, 21, 22, 23, 5, 24, 25, 26, 27, 28, 29, 30, 31, 32, 33, 34, 35, 36, 37, 38, 39, 40, 41, 42, 43] (by decide +kernel) (by decide +kernel)
set_option maxRecDepth 20000 in
theorem gX6_minor_X6_determinant : GoodIn wsX6_minor (wsV RX6 98 RX6 yX6_determinant wsX6_determinant) := goodIn_app (goodIn_of _ (by decide +kernel)) ggX6_minor_X6_determinant
theorem dX6_minor_0 : decode cX6_minor 0 = .ok (.iconst 0, 1) := by decide +kernel
theorem dX6_minor_1 : decode cX6_minor 1 = .ok (.istore 4, 2) := by decide +kernel
theorem dX6_minor_3 : decode cX6_minor 3 = .ok (.iconst 0, 1) := by decide +kernel
theorem dX6_minor_4 : decode cX6_minor 4 = .ok (.istore 5, 2) := by decide +kernel
theorem dX6_minor_6 : decode cX6_minor 6 = .ok (.iload 5, 2) := by decide +kernel
theorem dX6_minor_8 : decode cX6_minor 8 = .ok (.bipush 7, 2) := by decide +kernel
theorem dX6_minor_10 : decode cX6_minor 10 = .ok (.if_icmp .ge 84, 3) := by decide +kernel
theorem dX6_minor_13 : decode cX6_minor 13 = .ok (.iload_n 2, 1) := by decide +kernel
theorem dX6_minor_14 : decode cX6_minor 14 = .ok (.iload 5, 2) := by decide +kernel
theorem dX6_minor_16 : decode cX6_minor 16 = .ok (.ishr, 1) := by decide +kernel
theorem dX6_minor_17 : decode cX6_minor 17 = .ok (.iconst 1, 1) := by decide +kernel
theorem dX6_minor_18 : decode cX6_minor 18 = .ok (.iand, 1) := by decide +kernel
theorem dX6_minor_19 : decode cX6_minor 19 = .ok (.ifCond .ne 6, 3) := by decide +kernel
theorem dX6_minor_22 : decode cX6_minor 22 = .ok (.goto 66, 3) := by decide +kernel
theorem dX6_minor_25 : decode cX6_minor 25 = .ok (.iconst 0, 1) := by decide +kernel
theorem dX6_minor_26 : decode cX6_minor 26 = .ok (.istore 6, 2) := by decide +kernel
theorem dX6_minor_28 : decode cX6_minor 28 = .ok (.iconst 0, 1) := by decide +kernel
theorem dX6_minor_29 : decode cX6_minor 29 = .ok (.istore 7, 2) := by decide +kernel
theorem dX6_minor_31 : decode cX6_minor 31 = .ok (.iload 7, 2) := by decide +kernel
theorem dX6_minor_33 : decode cX6_minor 33 = .ok (.bipush 7, 2) := by decide +kernel
theorem dX6_minor_35 : decode cX6_minor 35 = .ok (.if_icmp .ge 50, 3) := by decide +kernel
theorem dX6_minor_38 : decode cX6_minor 38 = .ok (.iload_n 3, 1) := by decide +kernel
theorem dX6_minor_39 : decode cX6_minor 39 = .ok (.iload 7, 2) := by decide +kernel
theorem dX6_minor_41 : decode cX6_minor 41 = .ok (.ishr, 1) := by decide +kernel
theorem dX6_minor_42 : decode cX6_minor 42 = .ok (.iconst 1, 1) := by decide +kernel
theorem dX6_minor_43 : decode cX6_minor 43 = .ok (.iand, 1) := by decide +kernel
theorem dX6_minor_44 : decode cX6_minor 44 = .ok (.ifCond .ne 6, 3) := by decide +kernel
theorem dX6_minor_47 : decode cX6_minor 47 = .ok (.goto 32, 3) := by decide +kernel
theorem dX6_minor_50 : decode cX6_minor 50 = .ok (.aload_n 0, 1) := by decide +kernel
theorem dX6_minor_51 : decode cX6_minor 51 = .ok (.getfield 30, 3) := by decide +kernel
theorem dX6_minor_54 : decode cX6_minor 54 = .ok (.bipush 7, 2) := by decide +kernel
theorem dX6_minor_56 : decode cX6_minor 56 = .ok (.iload 4, 2) := by decide +kernel
theorem dX6_minor_58 : decode cX6_minor 58 = .ok (.imul, 1) := by decide +kernel
theorem dX6_minor_59 : decode cX6_minor 59 = .ok (.iload 6, 2) := by decide +kernel
theorem dX6_minor_61 : decode cX6_minor 61 = .ok (.iadd, 1) := by decide +kernel
theorem dX6_minor_62 : decode cX6_minor 62 = .ok (.aload_n 0, 1) := by decide +kernel
theorem dX6_minor_63 : decode cX6_minor 63 = .ok (.iload_n 1, 1) := by decide +kernel
theorem dX6_minor_64 : decode cX6_minor 64 = .ok (.iload 5, 2) := by decide +kernel
theorem dX6_minor_66 : decode cX6_minor 66 = .ok (.iconst 1, 1) := by decide +kernel
theorem dX6_minor_67 : decode cX6_minor 67 = .ok (.iadd, 1) := by decide +kernel
theorem dX6_minor_68 : decode cX6_minor 68 = .ok (.iload 7, 2) := by decide +kernel
theorem dX6_minor_70 : decode cX6_minor 70 = .ok (.iconst 1, 1) := by decide +kernel
theorem dX6_minor_71 : decode cX6_minor 71 = .ok (.iadd, 1) := by decide +kernel
theorem dX6_minor_72 : decode cX6_minor 72 = .ok (.invokevirtual 94, 3) := by decide +kernel
theorem dX6_minor_75 : decode cX6_minor 75 = .ok (.lastore, 1) := by decide +kernel
theorem dX6_minor_76 : decode cX6_minor 76 = .ok (.iinc 6 1, 3) := by decide +kernel
theorem dX6_minor_79 : decode cX6_minor 79 = .ok (.iinc 7 1, 3) := by decide +kernel
theorem dX6_minor_82 : decode cX6_minor 82 = .ok (.goto (-51), 3) := by decide +kernel
theorem dX6_minor_85 : decode cX6_minor 85 = .ok (.iinc 4 1, 3) := by decide +kernel
theorem dX6_minor_88 : decode cX6_minor 88 = .ok (.iinc 5 1, 3) := by decide +kernel
theorem dX6_minor_91 : decode cX6_minor 91 = .ok (.goto (-85), 3) := by decide +kernel
theorem dX6_minor_94 : decode cX6_minor 94 = .ok (.aload_n 0, 1) := by decide +kernel
theorem dX6_minor_95 : decode cX6_minor 95 = .ok (.iload 4, 2) := by decide +kernel
theorem dX6_minor_97 : decode cX6_minor 97 = .ok (.invokevirtual 98, 3) := by decide +kernel
theorem dX6_minor_100 : decode cX6_minor 100 = .ok (.lreturn, 1) := by decide +kernel
theorem dX6_all_0 : decode cX6_all 0 = .ok (.iconst 1, 1) := by decide +kernel
theorem dX6_all_1 : decode cX6_all 1 = .ok (.aload_n 0, 1) := by decide +kernel
theorem dX6_all_2 : decode cX6_all 2 = .ok (.getfield 7, 3) := by decide +kernel
theorem dX6_all_5 : decode cX6_all 5 = .ok (.iload_n 1, 1) := by decide +kernel
theorem dX6_all_6 : decode cX6_all 6 = .ok (.iaload, 1) := by decide +kernel
theorem dX6_all_7 : decode cX6_all 7 = .ok (.iconst 1, 1) := by decide +kernel
theorem dX6_all_8 : decode cX6_all 8 = .ok (.isub, 1) := by decide +kernel
theorem dX6_all_9 : decode cX6_all 9 = .ok (.ishl, 1) := by decide +kernel
theorem dX6_all_10 : decode cX6_all 10 = .ok (.iconst 1, 1) := by decide +kernel
theorem dX6_all_11 : decode cX6_all 11 = .ok (.isub, 1) := by decide +kernel
theorem dX6_all_12 : decode cX6_all 12 = .ok (.ireturn, 1) := by decide +kernel
set_option maxRecDepth 20000 in
theorem ggX6_treesOf_X6_all : GoodIn wsX6_treesOf wsX6_all := goodIn_r _ [5, 6, 33, 34, 35, 36, 37, 38, 39, 40, 41, 42, 43, 44, 45, 46, 47, 48, 49, 50, 51] (by decide +kernel) (by decide +kernel)
set_option maxRecDepth 20000 in
theorem gX6_treesOf_X6_all : GoodIn wsX6_treesOf (wsV RX6 102 RX6 yX6_all wsX6_all) := goodIn_app (goodIn_of _ (by decide +kernel)) ggX6_treesOf_X6_all
set_option maxRecDepth 20000 in
theorem ggX6_treesOf_X6_minor : GoodIn wsX6_treesOf wsX6_minor := goodIn_r _ [10, 11, 12, 13, 14, 4, 15, 16, 17, 18, 19, 6, 20, 21, 22, 23, 24, 25, 26, 27, 28, 29, 30, 31, 32, 33, 34, 35, 36, 37, 38, 39, 40, 41, 42, 43, 44, 45, 46, 47, 48, 49, 50, 51] (by decide +kernel) (by decide +kernel)
set_option maxRecDepth 20000 in
theorem gX6_treesOf_X6_minor : GoodIn wsX6_treesOf (wsV RX6 106 RX6 yX6_minor wsX6_minor) := goodIn_app (goodIn_of _ (by decide +kernel)) ggX6_treesOf_X6_minor
theorem dX6_treesOf_0 : decode cX6_treesOf 0 = .ok (.aload_n 0, 1) := by decide +kernel
theorem dX6_treesOf_1 : decode cX6_treesOf 1 = .ok (.iload_n 1, 1) := by decide +kernel
theorem dX6_treesOf_2 : decode cX6_treesOf 2 = .ok (.aload_n 0, 1) := by decide +kernel
theorem dX6_treesOf_3 : decode cX6_treesOf 3 = .ok (.iload_n 1, 1) := by decide +kernel
theorem dX6_treesOf_4 : decode cX6_treesOf 4 = .ok (.invokevirtual 102, 3) := by decide +kernel
theorem dX6_treesOf_7 : decode cX6_treesOf 7 = .ok (.aload_n 0, 1) := by decide +kernel
theorem dX6_treesOf_8 : decode cX6_treesOf 8 = .ok (.iload_n 1, 1) := by decide +kernel
theorem dX6_treesOf_9 : decode cX6_treesOf 9 = .ok (.invokevirtual 102, 3) := by decide +kernel
theorem dX6_treesOf_12 : decode cX6_treesOf 12 = .ok (.invokevirtual 106, 3) := by decide +kernel
theorem dX6_treesOf_15 : decode cX6_treesOf 15 = .ok (.lreturn, 1) := by decide +kernel
set_option maxRecDepth 20000 in
theorem ggX6_trees_X6_isYard : GoodIn wsX6_trees wsX6_isYard := goodIn_r _ [5, 6, 7, 8, 9, 10, 4, 11, 51, 52, 53, 54, 55, 56, 57, 58, 59, 60, 61, 62, 63, 64, 65, 66, 67, 68, 69] (by decide +kernel) (by decide +kernel)
set_option maxRecDepth 20000 in
theorem gX6_trees_X6_isYard : GoodIn wsX6_trees (wsV RX6 71 RX6 yX6_isYard wsX6_isYard) := goodIn_app (goodIn_of _ (by decide +kernel)) ggX6_trees_X6_isYard
set_option maxRecDepth 20000 in
theorem ggX6_trees_X6_isWhole : GoodIn wsX6_trees wsX6_isWhole := goodIn_r _ [15, 16, 17, 18, 19, 4, 20, 21, 51, 52, 53, 54, 55, 56, 57, 58, 59, 60, 61, 62, 63, 64, 65, 66, 67, 68, 69] (by decide +kernel) (by decide +kernel)
set_option maxRecDepth 20000 in
theorem gX6_trees_X6_isWhole : GoodIn wsX6_trees (wsV RX6 87 RX6 yX6_isWhole wsX6_isWhole) := goodIn_app (goodIn_of _ (by decide +kernel)) ggX6_trees_X6_isWhole
set_option maxRecDepth 20000 in
theorem ggX6_trees_X6_treesOf : GoodIn wsX6_trees wsX6_treesOf := goodIn_r _ [25, 26, 27, 28, 4, 29, 16, 30, 31, 32, 33, 34, 35, 36, 37, 38, 39, 40, 41, 42, 17, 18, 19, 20, 21, 43, 44, 45, 46, 47, 48, 49, 50, 51, 52, 53, 54, 55, 56, 57, 58, 59, 60, 61, 62, 63, 64, 65, 66, 67, 68, 69] (by decide +kernel) (by decide +kernel)
set_option maxRecDepth 20000 in
theorem gX6_trees_X6_treesOf : GoodIn wsX6_trees (wsV RX6 109 RX6 yX6_treesOf wsX6_treesOf) := goodIn_app (goodIn_of _ (by decide +kernel)) ggX6_trees_X6_treesOf
theorem dX6_trees_0 : decode cX6_trees 0 = .ok (.aload_n 0, 1) := by decide +kernel
theorem dX6_trees_1 : decode cX6_trees 1 = .ok (.iload_n 1, 1) := by decide +kernel
theorem dX6_trees_2 : decode cX6_trees 2 = .ok (.invokevirtual 71, 3) := by decide +kernel
theorem dX6_trees_5 : decode cX6_trees 5 = .ok (.ifCond .eq 19, 3) := by decide +kernel
theorem dX6_trees_8 : decode cX6_trees 8 = .ok (.aload_n 0, 1) := by decide +kernel
theorem dX6_trees_9 : decode cX6_trees 9 = .ok (.iload_n 1, 1) := by decide +kernel
theorem dX6_trees_10 : decode cX6_trees 10 = .ok (.invokevirtual 87, 3) := by decide +kernel
theorem dX6_trees_13 : decode cX6_trees 13 = .ok (.ifCond .eq 11, 3) := by decide +kernel
theorem dX6_trees_16 : decode cX6_trees 16 = .ok (.aload_n 0, 1) := by decide +kernel
theorem dX6_trees_17 : decode cX6_trees 17 = .ok (.iload_n 1, 1) := by decide +kernel
theorem dX6_trees_18 : decode cX6_trees 18 = .ok (.invokevirtual 109, 3) := by decide +kernel
theorem dX6_trees_21 : decode cX6_trees 21 = .ok (.goto 4, 3) := by decide +kernel
theorem dX6_trees_24 : decode cX6_trees 24 = .ok (.lconst 0, 1) := by decide +kernel
theorem dX6_trees_25 : decode cX6_trees 25 = .ok (.lreturn, 1) := by decide +kernel
theorem dX6_common_0 : decode cX6_common 0 = .ok (.lload_n 0, 1) := by decide +kernel
theorem dX6_common_1 : decode cX6_common 1 = .ok (.lconst 0, 1) := by decide +kernel
theorem dX6_common_2 : decode cX6_common 2 = .ok (.lcmp, 1) := by decide +kernel
theorem dX6_common_3 : decode cX6_common 3 = .ok (.ifCond .ge 8, 3) := by decide +kernel
theorem dX6_common_6 : decode cX6_common 6 = .ok (.lload_n 0, 1) := by decide +kernel
theorem dX6_common_7 : decode cX6_common 7 = .ok (.lneg, 1) := by decide +kernel
theorem dX6_common_8 : decode cX6_common 8 = .ok (.goto 4, 3) := by decide +kernel
theorem dX6_common_11 : decode cX6_common 11 = .ok (.lload_n 0, 1) := by decide +kernel
theorem dX6_common_12 : decode cX6_common 12 = .ok (.lstore 4, 2) := by decide +kernel
theorem dX6_common_14 : decode cX6_common 14 = .ok (.lload_n 2, 1) := by decide +kernel
theorem dX6_common_15 : decode cX6_common 15 = .ok (.lconst 0, 1) := by decide +kernel
theorem dX6_common_16 : decode cX6_common 16 = .ok (.lcmp, 1) := by decide +kernel
theorem dX6_common_17 : decode cX6_common 17 = .ok (.ifCond .ge 8, 3) := by decide +kernel
theorem dX6_common_20 : decode cX6_common 20 = .ok (.lload_n 2, 1) := by decide +kernel
theorem dX6_common_21 : decode cX6_common 21 = .ok (.lneg, 1) := by decide +kernel
theorem dX6_common_22 : decode cX6_common 22 = .ok (.goto 4, 3) := by decide +kernel
theorem dX6_common_25 : decode cX6_common 25 = .ok (.lload_n 2, 1) := by decide +kernel
theorem dX6_common_26 : decode cX6_common 26 = .ok (.lstore 6, 2) := by decide +kernel
theorem dX6_common_28 : decode cX6_common 28 = .ok (.lload 6, 2) := by decide +kernel
theorem dX6_common_30 : decode cX6_common 30 = .ok (.lconst 0, 1) := by decide +kernel
theorem dX6_common_31 : decode cX6_common 31 = .ok (.lcmp, 1) := by decide +kernel
theorem dX6_common_32 : decode cX6_common 32 = .ok (.ifCond .eq 21, 3) := by decide +kernel
theorem dX6_common_35 : decode cX6_common 35 = .ok (.lload 4, 2) := by decide +kernel
theorem dX6_common_37 : decode cX6_common 37 = .ok (.lload 6, 2) := by decide +kernel
theorem dX6_common_39 : decode cX6_common 39 = .ok (.lrem, 1) := by decide +kernel
theorem dX6_common_40 : decode cX6_common 40 = .ok (.lstore 8, 2) := by decide +kernel
theorem dX6_common_42 : decode cX6_common 42 = .ok (.lload 6, 2) := by decide +kernel
theorem dX6_common_44 : decode cX6_common 44 = .ok (.lstore 4, 2) := by decide +kernel
theorem dX6_common_46 : decode cX6_common 46 = .ok (.lload 8, 2) := by decide +kernel
theorem dX6_common_48 : decode cX6_common 48 = .ok (.lstore 6, 2) := by decide +kernel
theorem dX6_common_50 : decode cX6_common 50 = .ok (.goto (-22), 3) := by decide +kernel
theorem dX6_common_53 : decode cX6_common 53 = .ok (.lload 4, 2) := by decide +kernel
theorem dX6_common_55 : decode cX6_common 55 = .ok (.lreturn, 1) := by decide +kernel
theorem dX6_many_0 : decode cX6_many 0 = .ok (.iconst 0, 1) := by decide +kernel
theorem dX6_many_1 : decode cX6_many 1 = .ok (.istore_n 1, 1) := by decide +kernel
theorem dX6_many_2 : decode cX6_many 2 = .ok (.iload_n 0, 1) := by decide +kernel
theorem dX6_many_3 : decode cX6_many 3 = .ok (.istore_n 2, 1) := by decide +kernel
theorem dX6_many_4 : decode cX6_many 4 = .ok (.iload_n 2, 1) := by decide +kernel
theorem dX6_many_5 : decode cX6_many 5 = .ok (.ifCond .le 16, 3) := by decide +kernel
theorem dX6_many_8 : decode cX6_many 8 = .ok (.iload_n 1, 1) := by decide +kernel
theorem dX6_many_9 : decode cX6_many 9 = .ok (.iload_n 2, 1) := by decide +kernel
theorem dX6_many_10 : decode cX6_many 10 = .ok (.iconst 1, 1) := by decide +kernel
theorem dX6_many_11 : decode cX6_many 11 = .ok (.iand, 1) := by decide +kernel
theorem dX6_many_12 : decode cX6_many 12 = .ok (.iadd, 1) := by decide +kernel
theorem dX6_many_13 : decode cX6_many 13 = .ok (.istore_n 1, 1) := by decide +kernel
theorem dX6_many_14 : decode cX6_many 14 = .ok (.iload_n 2, 1) := by decide +kernel
theorem dX6_many_15 : decode cX6_many 15 = .ok (.iconst 1, 1) := by decide +kernel
theorem dX6_many_16 : decode cX6_many 16 = .ok (.ishr, 1) := by decide +kernel
theorem dX6_many_17 : decode cX6_many 17 = .ok (.istore_n 2, 1) := by decide +kernel
theorem dX6_many_18 : decode cX6_many 18 = .ok (.goto (-14), 3) := by decide +kernel
theorem dX6_many_21 : decode cX6_many 21 = .ok (.iload_n 1, 1) := by decide +kernel
theorem dX6_many_22 : decode cX6_many 22 = .ok (.ireturn, 1) := by decide +kernel
set_option maxRecDepth 20000 in
theorem ggX6_divisor_X6_all : GoodIn wsX6_divisor wsX6_all := goodIn_r _ [5, 6, 39, 40, 41, 42, 43, 44, 45, 46, 47, 48, 49, 50, 51, 52, 53, 54, 55, 56, 57] (by decide +kernel) (by decide +kernel)
set_option maxRecDepth 20000 in
theorem gX6_divisor_X6_all : GoodIn wsX6_divisor (wsV RX6 102 RX6 yX6_all wsX6_all) := goodIn_app (goodIn_of _ (by decide +kernel)) ggX6_divisor_X6_all
set_option maxRecDepth 20000 in
theorem ggX6_divisor_X6_many : GoodIn wsX6_divisor wsX6_many := goodIn_r _ [9] (by decide +kernel) (by decide +kernel)
set_option maxRecDepth 20000 in
theorem gX6_divisor_X6_many : GoodIn wsX6_divisor (va_wsS RX6 112 yX6_many wsX6_many) := goodIn_app (goodIn_of _ (by decide +kernel)) ggX6_divisor_X6_many
set_option maxRecDepth 20000 in
theorem ggX6_divisor_X6_minor : GoodIn wsX6_divisor wsX6_minor := goodIn_r _ [13, 14, 15, 16, 17, 4, 18, 19, 20, 21, 22, 6, 23, 24, 25, 26, 27, 28, 29, 30, 31, 32, 33, 34, 35, 39, 40, 41, 42, 43, 44, 45, 46, 47, 48, 49, 50, 51, 52, 53, 54, 55, 56, 57] (by decide +kernel) (by decide +kernel)
set_option maxRecDepth 20000 in
theorem gX6_divisor_X6_minor : GoodIn wsX6_divisor (wsV RX6 106 RX6 yX6_minor wsX6_minor) := goodIn_app (goodIn_of _ (by decide +kernel)) ggX6_divisor_X6_minor
set_option maxRecDepth 20000 in
theorem ggX6_divisor_X6_common : GoodIn wsX6_divisor wsX6_common := goodIn_r _ [38] (by decide +kernel) (by decide +kernel)
set_option maxRecDepth 20000 in
theorem gX6_divisor_X6_common : GoodIn wsX6_divisor (va_wsS RX6 115 yX6_common wsX6_common) := goodIn_app (goodIn_of _ (by decide +kernel)) ggX6_divisor_X6_common
theorem dX6_divisor_0 : decode cX6_divisor 0 = .ok (.lconst 0, 1) := by decide +kernel
theorem dX6_divisor_1 : decode cX6_divisor 1 = .ok (.lstore_n 3, 1) := by decide +kernel
theorem dX6_divisor_2 : decode cX6_divisor 2 = .ok (.iconst 0, 1) := by decide +kernel
theorem dX6_divisor_3 : decode cX6_divisor 3 = .ok (.istore 5, 2) := by decide +kernel
theorem dX6_divisor_5 : decode cX6_divisor 5 = .ok (.iload 5, 2) := by decide +kernel
theorem dX6_divisor_7 : decode cX6_divisor 7 = .ok (.aload_n 0, 1) := by decide +kernel
theorem dX6_divisor_8 : decode cX6_divisor 8 = .ok (.iload_n 1, 1) := by decide +kernel
theorem dX6_divisor_9 : decode cX6_divisor 9 = .ok (.invokevirtual 102, 3) := by decide +kernel
theorem dX6_divisor_12 : decode cX6_divisor 12 = .ok (.if_icmp .gt 69, 3) := by decide +kernel
theorem dX6_divisor_15 : decode cX6_divisor 15 = .ok (.iload 5, 2) := by decide +kernel
theorem dX6_divisor_17 : decode cX6_divisor 17 = .ok (.invokestatic 112, 3) := by decide +kernel
theorem dX6_divisor_20 : decode cX6_divisor 20 = .ok (.iload_n 2, 1) := by decide +kernel
theorem dX6_divisor_21 : decode cX6_divisor 21 = .ok (.if_icmp .eq 6, 3) := by decide +kernel
theorem dX6_divisor_24 : decode cX6_divisor 24 = .ok (.goto 51, 3) := by decide +kernel
theorem dX6_divisor_27 : decode cX6_divisor 27 = .ok (.iconst 0, 1) := by decide +kernel
theorem dX6_divisor_28 : decode cX6_divisor 28 = .ok (.istore 6, 2) := by decide +kernel
theorem dX6_divisor_30 : decode cX6_divisor 30 = .ok (.iload 6, 2) := by decide +kernel
theorem dX6_divisor_32 : decode cX6_divisor 32 = .ok (.aload_n 0, 1) := by decide +kernel
theorem dX6_divisor_33 : decode cX6_divisor 33 = .ok (.iload_n 1, 1) := by decide +kernel
theorem dX6_divisor_34 : decode cX6_divisor 34 = .ok (.invokevirtual 102, 3) := by decide +kernel
theorem dX6_divisor_37 : decode cX6_divisor 37 = .ok (.if_icmp .gt 38, 3) := by decide +kernel
theorem dX6_divisor_40 : decode cX6_divisor 40 = .ok (.lload_n 3, 1) := by decide +kernel
theorem dX6_divisor_41 : decode cX6_divisor 41 = .ok (.lconst 1, 1) := by decide +kernel
theorem dX6_divisor_42 : decode cX6_divisor 42 = .ok (.lcmp, 1) := by decide +kernel
theorem dX6_divisor_43 : decode cX6_divisor 43 = .ok (.ifCond .eq 32, 3) := by decide +kernel
theorem dX6_divisor_46 : decode cX6_divisor 46 = .ok (.iload 6, 2) := by decide +kernel
theorem dX6_divisor_48 : decode cX6_divisor 48 = .ok (.invokestatic 112, 3) := by decide +kernel
theorem dX6_divisor_51 : decode cX6_divisor 51 = .ok (.iload_n 2, 1) := by decide +kernel
theorem dX6_divisor_52 : decode cX6_divisor 52 = .ok (.if_icmp .ne 17, 3) := by decide +kernel
theorem dX6_divisor_55 : decode cX6_divisor 55 = .ok (.lload_n 3, 1) := by decide +kernel
theorem dX6_divisor_56 : decode cX6_divisor 56 = .ok (.aload_n 0, 1) := by decide +kernel
theorem dX6_divisor_57 : decode cX6_divisor 57 = .ok (.iload_n 1, 1) := by decide +kernel
theorem dX6_divisor_58 : decode cX6_divisor 58 = .ok (.iload 5, 2) := by decide +kernel
theorem dX6_divisor_60 : decode cX6_divisor 60 = .ok (.iload 6, 2) := by decide +kernel
theorem dX6_divisor_62 : decode cX6_divisor 62 = .ok (.invokevirtual 106, 3) := by decide +kernel
theorem dX6_divisor_65 : decode cX6_divisor 65 = .ok (.invokestatic 115, 3) := by decide +kernel
theorem dX6_divisor_68 : decode cX6_divisor 68 = .ok (.lstore_n 3, 1) := by decide +kernel
theorem dX6_divisor_69 : decode cX6_divisor 69 = .ok (.iinc 6 1, 3) := by decide +kernel
theorem dX6_divisor_72 : decode cX6_divisor 72 = .ok (.goto (-42), 3) := by decide +kernel
theorem dX6_divisor_75 : decode cX6_divisor 75 = .ok (.iinc 5 1, 3) := by decide +kernel
theorem dX6_divisor_78 : decode cX6_divisor 78 = .ok (.goto (-73), 3) := by decide +kernel
theorem dX6_divisor_81 : decode cX6_divisor 81 = .ok (.lload_n 3, 1) := by decide +kernel
theorem dX6_divisor_82 : decode cX6_divisor 82 = .ok (.lreturn, 1) := by decide +kernel
set_option maxRecDepth 20000 in
theorem ggX6_finds_X6_divisor : GoodIn wsX6_finds wsX6_divisor := goodIn_r _ [7, 8, 9, 10, 6, 11, 1, 12, 13, 14, 15, 16, 17, 18, 19, 20, 21, 22, 23, 24, 25, 26, 27, 28, 29, 30, 31, 32, 33, 34, 35, 36, 37, 38, 39, 40, 41, 42, 43, 44, 45, 46, 47, 48, 49, 50, 51, 52, 53, 54, 55, 56, 57, 58, 59, 60, 61, 62] (by decide +kernel) (by decide +kernel)
set_option maxRecDepth 20000 in
theorem gX6_finds_X6_divisor : GoodIn wsX6_finds (wsV RX6 119 RX6 yX6_divisor wsX6_divisor) := goodIn_app (goodIn_of _ (by decide +kernel)) ggX6_finds_X6_divisor
theorem dX6_finds_0 : decode cX6_finds 0 = .ok (.iconst 0, 1) := by decide +kernel
theorem dX6_finds_1 : decode cX6_finds 1 = .ok (.istore_n 2, 1) := by decide +kernel
theorem dX6_finds_2 : decode cX6_finds 2 = .ok (.lconst 1, 1) := by decide +kernel
theorem dX6_finds_3 : decode cX6_finds 3 = .ok (.lstore_n 3, 1) := by decide +kernel
theorem dX6_finds_4 : decode cX6_finds 4 = .ok (.iconst 1, 1) := by decide +kernel
theorem dX6_finds_5 : decode cX6_finds 5 = .ok (.istore 5, 2) := by decide +kernel
theorem dX6_finds_7 : decode cX6_finds 7 = .ok (.iload 5, 2) := by decide +kernel
theorem dX6_finds_9 : decode cX6_finds 9 = .ok (.aload_n 0, 1) := by decide +kernel
theorem dX6_finds_10 : decode cX6_finds 10 = .ok (.getfield 7, 3) := by decide +kernel
theorem dX6_finds_13 : decode cX6_finds 13 = .ok (.iload_n 1, 1) := by decide +kernel
theorem dX6_finds_14 : decode cX6_finds 14 = .ok (.iaload, 1) := by decide +kernel
theorem dX6_finds_15 : decode cX6_finds 15 = .ok (.if_icmp .ge 41, 3) := by decide +kernel
theorem dX6_finds_18 : decode cX6_finds 18 = .ok (.aload_n 0, 1) := by decide +kernel
theorem dX6_finds_19 : decode cX6_finds 19 = .ok (.iload_n 1, 1) := by decide +kernel
theorem dX6_finds_20 : decode cX6_finds 20 = .ok (.iload 5, 2) := by decide +kernel
theorem dX6_finds_22 : decode cX6_finds 22 = .ok (.invokevirtual 119, 3) := by decide +kernel
theorem dX6_finds_25 : decode cX6_finds 25 = .ok (.lstore 6, 2) := by decide +kernel
theorem dX6_finds_27 : decode cX6_finds 27 = .ok (.lload 6, 2) := by decide +kernel
theorem dX6_finds_29 : decode cX6_finds 29 = .ok (.lload_n 3, 1) := by decide +kernel
theorem dX6_finds_30 : decode cX6_finds 30 = .ok (.lcmp, 1) := by decide +kernel
theorem dX6_finds_31 : decode cX6_finds 31 = .ok (.ifCond .eq 16, 3) := by decide +kernel
theorem dX6_finds_34 : decode cX6_finds 34 = .ok (.aload_n 0, 1) := by decide +kernel
theorem dX6_finds_35 : decode cX6_finds 35 = .ok (.getfield 33, 3) := by decide +kernel
theorem dX6_finds_38 : decode cX6_finds 38 = .ok (.iload_n 2, 1) := by decide +kernel
theorem dX6_finds_39 : decode cX6_finds 39 = .ok (.lload 6, 2) := by decide +kernel
theorem dX6_finds_41 : decode cX6_finds 41 = .ok (.lload_n 3, 1) := by decide +kernel
theorem dX6_finds_42 : decode cX6_finds 42 = .ok (.ldiv, 1) := by decide +kernel
theorem dX6_finds_43 : decode cX6_finds 43 = .ok (.lastore, 1) := by decide +kernel
theorem dX6_finds_44 : decode cX6_finds 44 = .ok (.iinc 2 1, 3) := by decide +kernel
theorem dX6_finds_47 : decode cX6_finds 47 = .ok (.lload 6, 2) := by decide +kernel
theorem dX6_finds_49 : decode cX6_finds 49 = .ok (.lstore_n 3, 1) := by decide +kernel
theorem dX6_finds_50 : decode cX6_finds 50 = .ok (.iinc 5 1, 3) := by decide +kernel
theorem dX6_finds_53 : decode cX6_finds 53 = .ok (.goto (-46), 3) := by decide +kernel
theorem dX6_finds_56 : decode cX6_finds 56 = .ok (.iload_n 2, 1) := by decide +kernel
theorem dX6_finds_57 : decode cX6_finds 57 = .ok (.ireturn, 1) := by decide +kernel
set_option maxRecDepth 20000 in
theorem ggX6_part_X6_isYard : GoodIn wsX6_part wsX6_isYard := goodIn_r _ [6, 7, 8, 9, 10, 11, 5, 12, 62, 63, 64, 65, 66, 67, 68, 69, 70, 71, 72, 73, 74, 75, 76, 77, 78, 79, 80] (by decide +kernel) (by decide +kernel)
set_option maxRecDepth 20000 in
theorem gX6_part_X6_isYard : GoodIn wsX6_part (wsV RX6 71 RX6 yX6_isYard wsX6_isYard) := goodIn_app (goodIn_of _ (by decide +kernel)) ggX6_part_X6_isYard
set_option maxRecDepth 20000 in
theorem ggX6_part_X6_isWhole : GoodIn wsX6_part wsX6_isWhole := goodIn_r _ [16, 17, 18, 19, 20, 5, 21, 22, 62, 63, 64, 65, 66, 67, 68, 69, 70, 71, 72, 73, 74, 75, 76, 77, 78, 79, 80] (by decide +kernel) (by decide +kernel)
set_option maxRecDepth 20000 in
theorem gX6_part_X6_isWhole : GoodIn wsX6_part (wsV RX6 87 RX6 yX6_isWhole wsX6_isWhole) := goodIn_app (goodIn_of _ (by decide +kernel)) ggX6_part_X6_isWhole
set_option maxRecDepth 20000 in
theorem ggX6_part_X6_right : GoodIn wsX6_part wsX6_right := goodIn_r _ [12, 7, 62, 63, 64, 65, 66, 67, 68, 69, 70, 71, 72, 73, 74, 75, 76, 77, 78, 79, 80] (by decide +kernel) (by decide +kernel)
set_option maxRecDepth 20000 in
theorem gX6_part_X6_right : GoodIn wsX6_part (wsV RX6 67 RX6 yX6_right wsX6_right) := goodIn_app (goodIn_of _ (by decide +kernel)) ggX6_part_X6_right
set_option maxRecDepth 20000 in
theorem ggX6_part_X6_finds : GoodIn wsX6_part wsX6_finds := goodIn_r _ [26, 17, 1, 27, 28, 29, 5, 30, 31, 32, 33, 34, 35, 36, 37, 38, 39, 40, 41, 42, 43, 44, 45, 46, 47, 48, 49, 50, 18, 19, 20, 21, 22, 51, 52, 53, 54, 55, 56, 57, 58, 59, 60, 61, 62, 63, 64, 65, 66, 67, 68, 69, 70, 71, 72, 73, 74, 75, 76, 77, 78, 79, 80] (by decide +kernel) (by decide +kernel)
set_option maxRecDepth 20000 in
theorem gX6_part_X6_finds : GoodIn wsX6_part (wsV RX6 123 RX6 yX6_finds wsX6_finds) := goodIn_app (goodIn_of _ (by decide +kernel)) ggX6_part_X6_finds
theorem dX6_part_0 : decode cX6_part 0 = .ok (.aload_n 0, 1) := by decide +kernel
theorem dX6_part_1 : decode cX6_part 1 = .ok (.iload_n 1, 1) := by decide +kernel
theorem dX6_part_2 : decode cX6_part 2 = .ok (.invokevirtual 71, 3) := by decide +kernel
theorem dX6_part_5 : decode cX6_part 5 = .ok (.ifCond .eq 16, 3) := by decide +kernel
theorem dX6_part_8 : decode cX6_part 8 = .ok (.aload_n 0, 1) := by decide +kernel
theorem dX6_part_9 : decode cX6_part 9 = .ok (.aload_n 0, 1) := by decide +kernel
theorem dX6_part_10 : decode cX6_part 10 = .ok (.iload_n 1, 1) := by decide +kernel
theorem dX6_part_11 : decode cX6_part 11 = .ok (.invokevirtual 87, 3) := by decide +kernel
theorem dX6_part_14 : decode cX6_part 14 = .ok (.iconst 2, 1) := by decide +kernel
theorem dX6_part_15 : decode cX6_part 15 = .ok (.invokevirtual 67, 3) := by decide +kernel
theorem dX6_part_18 : decode cX6_part 18 = .ok (.ifCond .ne 5, 3) := by decide +kernel
theorem dX6_part_21 : decode cX6_part 21 = .ok (.lconst 0, 1) := by decide +kernel
theorem dX6_part_22 : decode cX6_part 22 = .ok (.lreturn, 1) := by decide +kernel
theorem dX6_part_23 : decode cX6_part 23 = .ok (.aload_n 0, 1) := by decide +kernel
theorem dX6_part_24 : decode cX6_part 24 = .ok (.iload_n 1, 1) := by decide +kernel
theorem dX6_part_25 : decode cX6_part 25 = .ok (.invokevirtual 123, 3) := by decide +kernel
theorem dX6_part_28 : decode cX6_part 28 = .ok (.istore_n 3, 1) := by decide +kernel
theorem dX6_part_29 : decode cX6_part 29 = .ok (.aload_n 0, 1) := by decide +kernel
theorem dX6_part_30 : decode cX6_part 30 = .ok (.iload_n 2, 1) := by decide +kernel
theorem dX6_part_31 : decode cX6_part 31 = .ok (.iconst (-1), 1) := by decide +kernel
theorem dX6_part_32 : decode cX6_part 32 = .ok (.if_icmp .lt 12, 3) := by decide +kernel
theorem dX6_part_35 : decode cX6_part 35 = .ok (.iload_n 2, 1) := by decide +kernel
theorem dX6_part_36 : decode cX6_part 36 = .ok (.iload_n 3, 1) := by decide +kernel
theorem dX6_part_37 : decode cX6_part 37 = .ok (.if_icmp .ge 7, 3) := by decide +kernel
theorem dX6_part_40 : decode cX6_part 40 = .ok (.iconst 1, 1) := by decide +kernel
theorem dX6_part_41 : decode cX6_part 41 = .ok (.goto 4, 3) := by decide +kernel
theorem dX6_part_44 : decode cX6_part 44 = .ok (.iconst 0, 1) := by decide +kernel
theorem dX6_part_45 : decode cX6_part 45 = .ok (.iconst 1, 1) := by decide +kernel
theorem dX6_part_46 : decode cX6_part 46 = .ok (.invokevirtual 67, 3) := by decide +kernel
theorem dX6_part_49 : decode cX6_part 49 = .ok (.ifCond .ne 5, 3) := by decide +kernel
theorem dX6_part_52 : decode cX6_part 52 = .ok (.lconst 0, 1) := by decide +kernel
theorem dX6_part_53 : decode cX6_part 53 = .ok (.lreturn, 1) := by decide +kernel
theorem dX6_part_54 : decode cX6_part 54 = .ok (.iload_n 2, 1) := by decide +kernel
theorem dX6_part_55 : decode cX6_part 55 = .ok (.iconst (-1), 1) := by decide +kernel
theorem dX6_part_56 : decode cX6_part 56 = .ok (.if_icmp .ne 8, 3) := by decide +kernel
theorem dX6_part_59 : decode cX6_part 59 = .ok (.iload_n 3, 1) := by decide +kernel
theorem dX6_part_60 : decode cX6_part 60 = .ok (.i2l, 1) := by decide +kernel
theorem dX6_part_61 : decode cX6_part 61 = .ok (.goto 9, 3) := by decide +kernel
theorem dX6_part_64 : decode cX6_part 64 = .ok (.aload_n 0, 1) := by decide +kernel
theorem dX6_part_65 : decode cX6_part 65 = .ok (.getfield 33, 3) := by decide +kernel
theorem dX6_part_68 : decode cX6_part 68 = .ok (.iload_n 2, 1) := by decide +kernel
theorem dX6_part_69 : decode cX6_part 69 = .ok (.laload, 1) := by decide +kernel
theorem dX6_part_70 : decode cX6_part 70 = .ok (.lreturn, 1) := by decide +kernel
set_option maxRecDepth 20000 in
theorem ggX6_isHeap_X6_right : GoodIn wsX6_isHeap wsX6_right := goodIn_r _ [7, 1, 8, 9, 10, 11, 12, 13, 14, 15, 16, 17, 18, 19, 20, 21, 22, 23, 24, 25, 26] (by decide +kernel) (by decide +kernel)
set_option maxRecDepth 20000 in
theorem gX6_isHeap_X6_right : GoodIn wsX6_isHeap (wsV RX6 67 RX6 yX6_right wsX6_right) := goodIn_app (goodIn_of _ (by decide +kernel)) ggX6_isHeap_X6_right
theorem dX6_isHeap_0 : decode cX6_isHeap 0 = .ok (.aload_n 0, 1) := by decide +kernel
theorem dX6_isHeap_1 : decode cX6_isHeap 1 = .ok (.iconst 0, 1) := by decide +kernel
theorem dX6_isHeap_2 : decode cX6_isHeap 2 = .ok (.putfield 60, 3) := by decide +kernel
theorem dX6_isHeap_5 : decode cX6_isHeap 5 = .ok (.aload_n 0, 1) := by decide +kernel
theorem dX6_isHeap_6 : decode cX6_isHeap 6 = .ok (.iload_n 1, 1) := by decide +kernel
theorem dX6_isHeap_7 : decode cX6_isHeap 7 = .ok (.ifCond .lt 15, 3) := by decide +kernel
theorem dX6_isHeap_10 : decode cX6_isHeap 10 = .ok (.iload_n 1, 1) := by decide +kernel
theorem dX6_isHeap_11 : decode cX6_isHeap 11 = .ok (.aload_n 0, 1) := by decide +kernel
theorem dX6_isHeap_12 : decode cX6_isHeap 12 = .ok (.getfield 126, 3) := by decide +kernel
theorem dX6_isHeap_15 : decode cX6_isHeap 15 = .ok (.if_icmp .ge 7, 3) := by decide +kernel
theorem dX6_isHeap_18 : decode cX6_isHeap 18 = .ok (.iconst 1, 1) := by decide +kernel
theorem dX6_isHeap_19 : decode cX6_isHeap 19 = .ok (.goto 4, 3) := by decide +kernel
theorem dX6_isHeap_22 : decode cX6_isHeap 22 = .ok (.iconst 0, 1) := by decide +kernel
theorem dX6_isHeap_23 : decode cX6_isHeap 23 = .ok (.iconst 1, 1) := by decide +kernel
theorem dX6_isHeap_24 : decode cX6_isHeap 24 = .ok (.invokevirtual 67, 3) := by decide +kernel
theorem dX6_isHeap_27 : decode cX6_isHeap 27 = .ok (.ireturn, 1) := by decide +kernel
theorem dX6_size_0 : decode cX6_size 0 = .ok (.aload_n 0, 1) := by decide +kernel
theorem dX6_size_1 : decode cX6_size 1 = .ok (.getfield 7, 3) := by decide +kernel
theorem dX6_size_4 : decode cX6_size 4 = .ok (.aload_n 0, 1) := by decide +kernel
theorem dX6_size_5 : decode cX6_size 5 = .ok (.getfield 16, 3) := by decide +kernel
theorem dX6_size_8 : decode cX6_size 8 = .ok (.iload_n 1, 1) := by decide +kernel
theorem dX6_size_9 : decode cX6_size 9 = .ok (.iaload, 1) := by decide +kernel
theorem dX6_size_10 : decode cX6_size 10 = .ok (.iaload, 1) := by decide +kernel
theorem dX6_size_11 : decode cX6_size 11 = .ok (.ireturn, 1) := by decide +kernel
set_option maxRecDepth 20000 in
theorem ggX6_heap_X6_isYard : GoodIn wsX6_heap wsX6_isYard := goodIn_r _ [8, 9, 10, 11, 12, 13, 7, 14, 25, 26, 27, 28, 29, 30, 31, 32, 33, 34, 35, 36, 37, 38, 39, 40, 41, 42, 43] (by decide +kernel) (by decide +kernel)
set_option maxRecDepth 20000 in
theorem gX6_heap_X6_isYard : GoodIn wsX6_heap (wsV RX6 71 RX6 yX6_isYard wsX6_isYard) := goodIn_app (goodIn_of _ (by decide +kernel)) ggX6_heap_X6_isYard
set_option maxRecDepth 20000 in
theorem ggX6_heap_X6_isWhole : GoodIn wsX6_heap wsX6_isWhole := goodIn_r _ [18, 19, 20, 21, 22, 7, 23, 24, 25, 26, 27, 28, 29, 30, 31, 32, 33, 34, 35, 36, 37, 38, 39, 40, 41, 42, 43] (by decide +kernel) (by decide +kernel)
set_option maxRecDepth 20000 in
theorem gX6_heap_X6_isWhole : GoodIn wsX6_heap (wsV RX6 87 RX6 yX6_isWhole wsX6_isWhole) := goodIn_app (goodIn_of _ (by decide +kernel)) ggX6_heap_X6_isWhole
theorem dX6_heap_0 : decode cX6_heap 0 = .ok (.aload_n 0, 1) := by decide +kernel
theorem dX6_heap_1 : decode cX6_heap 1 = .ok (.iload_n 1, 1) := by decide +kernel
theorem dX6_heap_2 : decode cX6_heap 2 = .ok (.invokevirtual 71, 3) := by decide +kernel
theorem dX6_heap_5 : decode cX6_heap 5 = .ok (.ifCond .ne 5, 3) := by decide +kernel
theorem dX6_heap_8 : decode cX6_heap 8 = .ok (.iconst 0, 1) := by decide +kernel
theorem dX6_heap_9 : decode cX6_heap 9 = .ok (.ireturn, 1) := by decide +kernel
theorem dX6_heap_10 : decode cX6_heap 10 = .ok (.aload_n 0, 1) := by decide +kernel
theorem dX6_heap_11 : decode cX6_heap 11 = .ok (.getfield 126, 3) := by decide +kernel
theorem dX6_heap_14 : decode cX6_heap 14 = .ok (.bipush 20, 2) := by decide +kernel
theorem dX6_heap_16 : decode cX6_heap 16 = .ok (.if_icmp .eq 11, 3) := by decide +kernel
theorem dX6_heap_19 : decode cX6_heap 19 = .ok (.aload_n 0, 1) := by decide +kernel
theorem dX6_heap_20 : decode cX6_heap 20 = .ok (.iload_n 1, 1) := by decide +kernel
theorem dX6_heap_21 : decode cX6_heap 21 = .ok (.invokevirtual 87, 3) := by decide +kernel
theorem dX6_heap_24 : decode cX6_heap 24 = .ok (.ifCond .ne 5, 3) := by decide +kernel
theorem dX6_heap_27 : decode cX6_heap 27 = .ok (.iconst (-1), 1) := by decide +kernel
theorem dX6_heap_28 : decode cX6_heap 28 = .ok (.ireturn, 1) := by decide +kernel
theorem dX6_heap_29 : decode cX6_heap 29 = .ok (.aload_n 0, 1) := by decide +kernel
theorem dX6_heap_30 : decode cX6_heap 30 = .ok (.getfield 16, 3) := by decide +kernel
theorem dX6_heap_33 : decode cX6_heap 33 = .ok (.aload_n 0, 1) := by decide +kernel
theorem dX6_heap_34 : decode cX6_heap 34 = .ok (.getfield 126, 3) := by decide +kernel
theorem dX6_heap_37 : decode cX6_heap 37 = .ok (.iload_n 1, 1) := by decide +kernel
theorem dX6_heap_38 : decode cX6_heap 38 = .ok (.iastore, 1) := by decide +kernel
theorem dX6_heap_39 : decode cX6_heap 39 = .ok (.aload_n 0, 1) := by decide +kernel
theorem dX6_heap_40 : decode cX6_heap 40 = .ok (.getfield 19, 3) := by decide +kernel
theorem dX6_heap_43 : decode cX6_heap 43 = .ok (.iload_n 1, 1) := by decide +kernel
theorem dX6_heap_44 : decode cX6_heap 44 = .ok (.iconst 1, 1) := by decide +kernel
theorem dX6_heap_45 : decode cX6_heap 45 = .ok (.bastore, 1) := by decide +kernel
theorem dX6_heap_46 : decode cX6_heap 46 = .ok (.aload_n 0, 1) := by decide +kernel
theorem dX6_heap_47 : decode cX6_heap 47 = .ok (.dup, 1) := by decide +kernel
theorem dX6_heap_48 : decode cX6_heap 48 = .ok (.getfield 126, 3) := by decide +kernel
theorem dX6_heap_51 : decode cX6_heap 51 = .ok (.iconst 1, 1) := by decide +kernel
theorem dX6_heap_52 : decode cX6_heap 52 = .ok (.iadd, 1) := by decide +kernel
theorem dX6_heap_53 : decode cX6_heap 53 = .ok (.putfield 126, 3) := by decide +kernel
theorem dX6_heap_56 : decode cX6_heap 56 = .ok (.aload_n 0, 1) := by decide +kernel
theorem dX6_heap_57 : decode cX6_heap 57 = .ok (.getfield 126, 3) := by decide +kernel
theorem dX6_heap_60 : decode cX6_heap 60 = .ok (.iconst 1, 1) := by decide +kernel
theorem dX6_heap_61 : decode cX6_heap 61 = .ok (.isub, 1) := by decide +kernel
theorem dX6_heap_62 : decode cX6_heap 62 = .ok (.ireturn, 1) := by decide +kernel
set_option maxRecDepth 20000 in
theorem ggX6_isIn_X6_size : GoodIn wsX6_isIn wsX6_size := goodIn_r _ [5, 6, 7, 13, 14, 15, 16, 17, 18, 19, 20, 21, 22, 23, 24, 25, 26, 27, 28, 29, 30, 31] (by decide +kernel) (by decide +kernel)
set_option maxRecDepth 20000 in
theorem gX6_isIn_X6_size : GoodIn wsX6_isIn (wsV RX6 129 RX6 yX6_size wsX6_size) := goodIn_app (goodIn_of _ (by decide +kernel)) ggX6_isIn_X6_size
set_option maxRecDepth 20000 in
theorem ggX6_isIn_X6_right : GoodIn wsX6_isIn wsX6_right := goodIn_r _ [11, 12, 13, 14, 15, 16, 17, 18, 19, 20, 21, 22, 23, 24, 25, 26, 27, 28, 29, 30, 31] (by decide +kernel) (by decide +kernel)
set_option maxRecDepth 20000 in
theorem gX6_isIn_X6_right : GoodIn wsX6_isIn (wsV RX6 67 RX6 yX6_right wsX6_right) := goodIn_app (goodIn_of _ (by decide +kernel)) ggX6_isIn_X6_right
theorem dX6_isIn_0 : decode cX6_isIn 0 = .ok (.aload_n 0, 1) := by decide +kernel
theorem dX6_isIn_1 : decode cX6_isIn 1 = .ok (.iload_n 2, 1) := by decide +kernel
theorem dX6_isIn_2 : decode cX6_isIn 2 = .ok (.iload_n 3, 1) := by decide +kernel
theorem dX6_isIn_3 : decode cX6_isIn 3 = .ok (.if_icmp .lt 16, 3) := by decide +kernel
theorem dX6_isIn_6 : decode cX6_isIn 6 = .ok (.iload_n 2, 1) := by decide +kernel
theorem dX6_isIn_7 : decode cX6_isIn 7 = .ok (.aload_n 0, 1) := by decide +kernel
theorem dX6_isIn_8 : decode cX6_isIn 8 = .ok (.iload_n 1, 1) := by decide +kernel
theorem dX6_isIn_9 : decode cX6_isIn 9 = .ok (.invokevirtual 129, 3) := by decide +kernel
theorem dX6_isIn_12 : decode cX6_isIn 12 = .ok (.if_icmp .ge 7, 3) := by decide +kernel
theorem dX6_isIn_15 : decode cX6_isIn 15 = .ok (.iconst 1, 1) := by decide +kernel
theorem dX6_isIn_16 : decode cX6_isIn 16 = .ok (.goto 4, 3) := by decide +kernel
theorem dX6_isIn_19 : decode cX6_isIn 19 = .ok (.iconst 0, 1) := by decide +kernel
theorem dX6_isIn_20 : decode cX6_isIn 20 = .ok (.iconst 1, 1) := by decide +kernel
theorem dX6_isIn_21 : decode cX6_isIn 21 = .ok (.invokevirtual 67, 3) := by decide +kernel
theorem dX6_isIn_24 : decode cX6_isIn 24 = .ok (.ireturn, 1) := by decide +kernel
set_option maxRecDepth 20000 in
theorem ggX6_set_X6_isHeap : GoodIn wsX6_set wsX6_isHeap := goodIn_r _ [7, 8, 9, 10, 11, 12, 6, 13, 24, 25, 26, 27, 28, 29, 30, 31, 32, 33, 34, 35, 36, 37, 38, 39, 40, 41, 42] (by decide +kernel) (by decide +kernel)
set_option maxRecDepth 20000 in
theorem gX6_set_X6_isHeap : GoodIn wsX6_set (wsV RX6 132 RX6 yX6_isHeap wsX6_isHeap) := goodIn_app (goodIn_of _ (by decide +kernel)) ggX6_set_X6_isHeap
set_option maxRecDepth 20000 in
theorem ggX6_set_X6_isIn : GoodIn wsX6_set wsX6_isIn := goodIn_r _ [17, 18, 19, 20, 6, 21, 22, 23, 10, 11, 12, 13, 8, 24, 25, 26, 27, 28, 29, 30, 31, 32, 33, 34, 35, 36, 37, 38, 39, 40, 41, 42] (by decide +kernel) (by decide +kernel)
set_option maxRecDepth 20000 in
theorem gX6_set_X6_isIn : GoodIn wsX6_set (wsV RX6 135 RX6 yX6_isIn wsX6_isIn) := goodIn_app (goodIn_of _ (by decide +kernel)) ggX6_set_X6_isIn
set_option maxRecDepth 20000 in
theorem ggX6_set_X6_right : GoodIn wsX6_set wsX6_right := goodIn_r _ [13, 8, 24, 25, 26, 27, 28, 29, 30, 31, 32, 33, 34, 35, 36, 37, 38, 39, 40, 41, 42] (by decide +kernel) (by decide +kernel)
set_option maxRecDepth 20000 in
theorem gX6_set_X6_right : GoodIn wsX6_set (wsV RX6 67 RX6 yX6_right wsX6_right) := goodIn_app (goodIn_of _ (by decide +kernel)) ggX6_set_X6_right
theorem dX6_set_0 : decode cX6_set 0 = .ok (.aload_n 0, 1) := by decide +kernel
theorem dX6_set_1 : decode cX6_set 1 = .ok (.iload_n 1, 1) := by decide +kernel
theorem dX6_set_2 : decode cX6_set 2 = .ok (.invokevirtual 132, 3) := by decide +kernel
theorem dX6_set_5 : decode cX6_set 5 = .ok (.ifCond .eq 36, 3) := by decide +kernel
theorem dX6_set_8 : decode cX6_set 8 = .ok (.aload_n 0, 1) := by decide +kernel
theorem dX6_set_9 : decode cX6_set 9 = .ok (.iload_n 1, 1) := by decide +kernel
theorem dX6_set_10 : decode cX6_set 10 = .ok (.iload_n 2, 1) := by decide +kernel
theorem dX6_set_11 : decode cX6_set 11 = .ok (.iconst 1, 1) := by decide +kernel
theorem dX6_set_12 : decode cX6_set 12 = .ok (.invokevirtual 135, 3) := by decide +kernel
theorem dX6_set_15 : decode cX6_set 15 = .ok (.ifCond .eq 26, 3) := by decide +kernel
theorem dX6_set_18 : decode cX6_set 18 = .ok (.aload_n 0, 1) := by decide +kernel
theorem dX6_set_19 : decode cX6_set 19 = .ok (.iload_n 3, 1) := by decide +kernel
theorem dX6_set_20 : decode cX6_set 20 = .ok (.ifCond .lt 13, 3) := by decide +kernel
theorem dX6_set_23 : decode cX6_set 23 = .ok (.iload_n 3, 1) := by decide +kernel
theorem dX6_set_24 : decode cX6_set 24 = .ok (.ldc 139, 2) := by decide +kernel
theorem dX6_set_26 : decode cX6_set 26 = .ok (.if_icmp .gt 7, 3) := by decide +kernel
theorem dX6_set_29 : decode cX6_set 29 = .ok (.iconst 1, 1) := by decide +kernel
theorem dX6_set_30 : decode cX6_set 30 = .ok (.goto 4, 3) := by decide +kernel
theorem dX6_set_33 : decode cX6_set 33 = .ok (.iconst 0, 1) := by decide +kernel
theorem dX6_set_34 : decode cX6_set 34 = .ok (.iconst 2, 1) := by decide +kernel
theorem dX6_set_35 : decode cX6_set 35 = .ok (.invokevirtual 67, 3) := by decide +kernel
theorem dX6_set_38 : decode cX6_set 38 = .ok (.ifCond .ne 5, 3) := by decide +kernel
theorem dX6_set_41 : decode cX6_set 41 = .ok (.iconst 0, 1) := by decide +kernel
theorem dX6_set_42 : decode cX6_set 42 = .ok (.ireturn, 1) := by decide +kernel
theorem dX6_set_43 : decode cX6_set 43 = .ok (.aload_n 0, 1) := by decide +kernel
theorem dX6_set_44 : decode cX6_set 44 = .ok (.getfield 23, 3) := by decide +kernel
theorem dX6_set_47 : decode cX6_set 47 = .ok (.bipush 8, 2) := by decide +kernel
theorem dX6_set_49 : decode cX6_set 49 = .ok (.iload_n 1, 1) := by decide +kernel
theorem dX6_set_50 : decode cX6_set 50 = .ok (.imul, 1) := by decide +kernel
theorem dX6_set_51 : decode cX6_set 51 = .ok (.iload_n 2, 1) := by decide +kernel
theorem dX6_set_52 : decode cX6_set 52 = .ok (.iadd, 1) := by decide +kernel
theorem dX6_set_53 : decode cX6_set 53 = .ok (.laload, 1) := by decide +kernel
theorem dX6_set_54 : decode cX6_set 54 = .ok (.l2i, 1) := by decide +kernel
theorem dX6_set_55 : decode cX6_set 55 = .ok (.istore 4, 2) := by decide +kernel
theorem dX6_set_57 : decode cX6_set 57 = .ok (.aload_n 0, 1) := by decide +kernel
theorem dX6_set_58 : decode cX6_set 58 = .ok (.getfield 23, 3) := by decide +kernel
theorem dX6_set_61 : decode cX6_set 61 = .ok (.bipush 8, 2) := by decide +kernel
theorem dX6_set_63 : decode cX6_set 63 = .ok (.iload_n 1, 1) := by decide +kernel
theorem dX6_set_64 : decode cX6_set 64 = .ok (.imul, 1) := by decide +kernel
theorem dX6_set_65 : decode cX6_set 65 = .ok (.iload_n 2, 1) := by decide +kernel
theorem dX6_set_66 : decode cX6_set 66 = .ok (.iadd, 1) := by decide +kernel
theorem dX6_set_67 : decode cX6_set 67 = .ok (.iload_n 3, 1) := by decide +kernel
theorem dX6_set_68 : decode cX6_set 68 = .ok (.i2l, 1) := by decide +kernel
theorem dX6_set_69 : decode cX6_set 69 = .ok (.lastore, 1) := by decide +kernel
theorem dX6_set_70 : decode cX6_set 70 = .ok (.iload 4, 2) := by decide +kernel
theorem dX6_set_72 : decode cX6_set 72 = .ok (.ireturn, 1) := by decide +kernel
set_option maxRecDepth 20000 in
theorem ggX6_grains_X6_isHeap : GoodIn wsX6_grains wsX6_isHeap := goodIn_r _ [6, 7, 8, 9, 10, 11, 5, 12, 23, 24, 25, 26, 27, 28, 29, 30, 31, 32, 33, 34, 35, 36, 37, 38, 39, 40, 41] (by decide +kernel) (by decide +kernel)
set_option maxRecDepth 20000 in
theorem gX6_grains_X6_isHeap : GoodIn wsX6_grains (wsV RX6 132 RX6 yX6_isHeap wsX6_isHeap) := goodIn_app (goodIn_of _ (by decide +kernel)) ggX6_grains_X6_isHeap
set_option maxRecDepth 20000 in
theorem ggX6_grains_X6_isIn : GoodIn wsX6_grains wsX6_isIn := goodIn_r _ [16, 17, 18, 19, 5, 20, 21, 22, 9, 10, 11, 12, 7, 23, 24, 25, 26, 27, 28, 29, 30, 31, 32, 33, 34, 35, 36, 37, 38, 39, 40, 41] (by decide +kernel) (by decide +kernel)
set_option maxRecDepth 20000 in
theorem gX6_grains_X6_isIn : GoodIn wsX6_grains (wsV RX6 135 RX6 yX6_isIn wsX6_isIn) := goodIn_app (goodIn_of _ (by decide +kernel)) ggX6_grains_X6_isIn
theorem dX6_grains_0 : decode cX6_grains 0 = .ok (.aload_n 0, 1) := by decide +kernel
theorem dX6_grains_1 : decode cX6_grains 1 = .ok (.iload_n 1, 1) := by decide +kernel
theorem dX6_grains_2 : decode cX6_grains 2 = .ok (.invokevirtual 132, 3) := by decide +kernel
theorem dX6_grains_5 : decode cX6_grains 5 = .ok (.ifCond .eq 27, 3) := by decide +kernel
theorem dX6_grains_8 : decode cX6_grains 8 = .ok (.aload_n 0, 1) := by decide +kernel
theorem dX6_grains_9 : decode cX6_grains 9 = .ok (.iload_n 1, 1) := by decide +kernel
theorem dX6_grains_10 : decode cX6_grains 10 = .ok (.iload_n 2, 1) := by decide +kernel
theorem dX6_grains_11 : decode cX6_grains 11 = .ok (.iconst 0, 1) := by decide +kernel
theorem dX6_grains_12 : decode cX6_grains 12 = .ok (.invokevirtual 135, 3) := by decide +kernel
theorem dX6_grains_15 : decode cX6_grains 15 = .ok (.ifCond .eq 17, 3) := by decide +kernel
theorem dX6_grains_18 : decode cX6_grains 18 = .ok (.aload_n 0, 1) := by decide +kernel
theorem dX6_grains_19 : decode cX6_grains 19 = .ok (.getfield 23, 3) := by decide +kernel
theorem dX6_grains_22 : decode cX6_grains 22 = .ok (.bipush 8, 2) := by decide +kernel
theorem dX6_grains_24 : decode cX6_grains 24 = .ok (.iload_n 1, 1) := by decide +kernel
theorem dX6_grains_25 : decode cX6_grains 25 = .ok (.imul, 1) := by decide +kernel
theorem dX6_grains_26 : decode cX6_grains 26 = .ok (.iload_n 2, 1) := by decide +kernel
theorem dX6_grains_27 : decode cX6_grains 27 = .ok (.iadd, 1) := by decide +kernel
theorem dX6_grains_28 : decode cX6_grains 28 = .ok (.laload, 1) := by decide +kernel
theorem dX6_grains_29 : decode cX6_grains 29 = .ok (.goto 4, 3) := by decide +kernel
theorem dX6_grains_32 : decode cX6_grains 32 = .ok (.lconst 0, 1) := by decide +kernel
theorem dX6_grains_33 : decode cX6_grains 33 = .ok (.lreturn, 1) := by decide +kernel
set_option maxRecDepth 20000 in
theorem ggX6_topples_X6_size : GoodIn wsX6_topples wsX6_size := goodIn_r _ [7, 8, 1, 18, 19, 20, 21, 22, 23, 24, 25, 26, 27, 28, 29, 30, 31, 32, 33, 34, 35, 36] (by decide +kernel) (by decide +kernel)
set_option maxRecDepth 20000 in
theorem gX6_topples_X6_size : GoodIn wsX6_topples (wsV RX6 129 RX6 yX6_size wsX6_size) := goodIn_app (goodIn_of _ (by decide +kernel)) ggX6_topples_X6_size

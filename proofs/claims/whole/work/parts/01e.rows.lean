theorem dX2_allLeaves_0 : decode cX2_allLeaves 0 = .ok (.iconst 0, 1) := by decide +kernel
theorem dX2_allLeaves_1 : decode cX2_allLeaves 1 = .ok (.istore_n 2, 1) := by decide +kernel
theorem dX2_allLeaves_2 : decode cX2_allLeaves 2 = .ok (.iconst 0, 1) := by decide +kernel
theorem dX2_allLeaves_3 : decode cX2_allLeaves 3 = .ok (.istore_n 3, 1) := by decide +kernel
theorem dX2_allLeaves_4 : decode cX2_allLeaves 4 = .ok (.iload_n 3, 1) := by decide +kernel
theorem dX2_allLeaves_5 : decode cX2_allLeaves 5 = .ok (.bipush 12, 2) := by decide +kernel
theorem dX2_allLeaves_7 : decode cX2_allLeaves 7 = .ok (.if_icmp .ge 18, 3) := by decide +kernel
theorem dX2_allLeaves_10 : decode cX2_allLeaves 10 = .ok (.iload_n 2, 1) := by decide +kernel
theorem dX2_allLeaves_11 : decode cX2_allLeaves 11 = .ok (.aload_n 0, 1) := by decide +kernel
theorem dX2_allLeaves_12 : decode cX2_allLeaves 12 = .ok (.iload_n 1, 1) := by decide +kernel
theorem dX2_allLeaves_13 : decode cX2_allLeaves 13 = .ok (.iload_n 3, 1) := by decide +kernel
theorem dX2_allLeaves_14 : decode cX2_allLeaves 14 = .ok (.invokevirtual 40, 3) := by decide +kernel
theorem dX2_allLeaves_17 : decode cX2_allLeaves 17 = .ok (.iadd, 1) := by decide +kernel
theorem dX2_allLeaves_18 : decode cX2_allLeaves 18 = .ok (.istore_n 2, 1) := by decide +kernel
theorem dX2_allLeaves_19 : decode cX2_allLeaves 19 = .ok (.iinc 3 1, 3) := by decide +kernel
theorem dX2_allLeaves_22 : decode cX2_allLeaves 22 = .ok (.goto (-18), 3) := by decide +kernel
theorem dX2_allLeaves_25 : decode cX2_allLeaves 25 = .ok (.iload_n 2, 1) := by decide +kernel
theorem dX2_allLeaves_26 : decode cX2_allLeaves 26 = .ok (.ireturn, 1) := by decide +kernel
set_option maxRecDepth 20000 in
theorem ggX2_allLit_X2_inColumn : GoodIn wsX2_allLit wsX2_inColumn := goodIn_r _ [5, 6, 7, 8, 4, 9, 10, 11, 12, 13, 14, 15, 16, 17, 18, 19, 20, 21, 22, 23, 24, 25, 26] (by decide +kernel) (by decide +kernel)
set_option maxRecDepth 20000 in
theorem gX2_allLit_X2_inColumn : GoodIn wsX2_allLit (wsV RX2 40 RX2 yX2_inColumn wsX2_inColumn) := goodIn_app (goodIn_of _ (by decide +kernel)) ggX2_allLit_X2_inColumn
theorem dX2_allLit_0 : decode cX2_allLit 0 = .ok (.iconst 0, 1) := by decide +kernel
theorem dX2_allLit_1 : decode cX2_allLit 1 = .ok (.istore_n 2, 1) := by decide +kernel
theorem dX2_allLit_2 : decode cX2_allLit 2 = .ok (.iconst 0, 1) := by decide +kernel
theorem dX2_allLit_3 : decode cX2_allLit 3 = .ok (.istore_n 3, 1) := by decide +kernel
theorem dX2_allLit_4 : decode cX2_allLit 4 = .ok (.iload_n 3, 1) := by decide +kernel
theorem dX2_allLit_5 : decode cX2_allLit 5 = .ok (.bipush 12, 2) := by decide +kernel
theorem dX2_allLit_7 : decode cX2_allLit 7 = .ok (.if_icmp .ge 26, 3) := by decide +kernel
theorem dX2_allLit_10 : decode cX2_allLit 10 = .ok (.iload_n 2, 1) := by decide +kernel
theorem dX2_allLit_11 : decode cX2_allLit 11 = .ok (.aload_n 0, 1) := by decide +kernel
theorem dX2_allLit_12 : decode cX2_allLit 12 = .ok (.iload_n 1, 1) := by decide +kernel
theorem dX2_allLit_13 : decode cX2_allLit 13 = .ok (.iload_n 3, 1) := by decide +kernel
theorem dX2_allLit_14 : decode cX2_allLit 14 = .ok (.invokevirtual 40, 3) := by decide +kernel
theorem dX2_allLit_17 : decode cX2_allLit 17 = .ok (.ifCond .le 7, 3) := by decide +kernel
theorem dX2_allLit_20 : decode cX2_allLit 20 = .ok (.iconst 1, 1) := by decide +kernel
theorem dX2_allLit_21 : decode cX2_allLit 21 = .ok (.goto 4, 3) := by decide +kernel
theorem dX2_allLit_24 : decode cX2_allLit 24 = .ok (.iconst 0, 1) := by decide +kernel
theorem dX2_allLit_25 : decode cX2_allLit 25 = .ok (.iadd, 1) := by decide +kernel
theorem dX2_allLit_26 : decode cX2_allLit 26 = .ok (.istore_n 2, 1) := by decide +kernel
theorem dX2_allLit_27 : decode cX2_allLit 27 = .ok (.iinc 3 1, 3) := by decide +kernel
theorem dX2_allLit_30 : decode cX2_allLit 30 = .ok (.goto (-26), 3) := by decide +kernel
theorem dX2_allLit_33 : decode cX2_allLit 33 = .ok (.iload_n 2, 1) := by decide +kernel
theorem dX2_allLit_34 : decode cX2_allLit 34 = .ok (.ireturn, 1) := by decide +kernel
set_option maxRecDepth 20000 in
theorem ggX2_becomes_X2_holders : GoodIn wsX2_becomes wsX2_holders := goodIn_r _ [6, 7, 8, 9, 5, 10, 11, 12, 13, 14, 15, 1, 16, 17, 18, 27, 28, 29, 30, 31, 32, 33, 34] (by decide +kernel) (by decide +kernel)
set_option maxRecDepth 20000 in
theorem gX2_becomes_X2_holders : GoodIn wsX2_becomes (wsV RX2 44 RX2 yX2_holders wsX2_holders) := goodIn_app (goodIn_of _ (by decide +kernel)) ggX2_becomes_X2_holders
set_option maxRecDepth 20000 in
theorem ggX2_becomes_X2_neighbours : GoodIn wsX2_becomes wsX2_neighbours := goodIn_r _ [22, 7, 8, 9, 5, 10, 11, 12, 13, 14, 15, 1, 16, 17, 18, 27, 28, 29, 30, 31, 32, 33, 34] (by decide +kernel) (by decide +kernel)
set_option maxRecDepth 20000 in
theorem gX2_becomes_X2_neighbours : GoodIn wsX2_becomes (wsV RX2 47 RX2 yX2_neighbours wsX2_neighbours) := goodIn_app (goodIn_of _ (by decide +kernel)) ggX2_becomes_X2_neighbours
set_option maxRecDepth 20000 in
theorem ggX2_becomes_X2_shade : GoodIn wsX2_becomes wsX2_shade := goodIn_r _ [26, 11, 12, 13, 5, 14, 15, 1, 16, 17, 18, 27, 28, 29, 30, 31, 32, 33, 34] (by decide +kernel) (by decide +kernel)
set_option maxRecDepth 20000 in
theorem gX2_becomes_X2_shade : GoodIn wsX2_becomes (wsV RX2 37 RX2 yX2_shade wsX2_shade) := goodIn_app (goodIn_of _ (by decide +kernel)) ggX2_becomes_X2_shade
theorem dX2_becomes_0 : decode cX2_becomes 0 = .ok (.aload_n 0, 1) := by decide +kernel
theorem dX2_becomes_1 : decode cX2_becomes 1 = .ok (.getfield 7, 3) := by decide +kernel
theorem dX2_becomes_4 : decode cX2_becomes 4 = .ok (.bipush 96, 2) := by decide +kernel
theorem dX2_becomes_6 : decode cX2_becomes 6 = .ok (.iload_n 1, 1) := by decide +kernel
theorem dX2_becomes_7 : decode cX2_becomes 7 = .ok (.imul, 1) := by decide +kernel
theorem dX2_becomes_8 : decode cX2_becomes 8 = .ok (.bipush 12, 2) := by decide +kernel
theorem dX2_becomes_10 : decode cX2_becomes 10 = .ok (.iload_n 2, 1) := by decide +kernel
theorem dX2_becomes_11 : decode cX2_becomes 11 = .ok (.imul, 1) := by decide +kernel
theorem dX2_becomes_12 : decode cX2_becomes 12 = .ok (.iadd, 1) := by decide +kernel
theorem dX2_becomes_13 : decode cX2_becomes 13 = .ok (.iload_n 3, 1) := by decide +kernel
theorem dX2_becomes_14 : decode cX2_becomes 14 = .ok (.iadd, 1) := by decide +kernel
theorem dX2_becomes_15 : decode cX2_becomes 15 = .ok (.iaload, 1) := by decide +kernel
theorem dX2_becomes_16 : decode cX2_becomes 16 = .ok (.istore 4, 2) := by decide +kernel
theorem dX2_becomes_18 : decode cX2_becomes 18 = .ok (.iload 4, 2) := by decide +kernel
theorem dX2_becomes_20 : decode cX2_becomes 20 = .ok (.iconst 2, 1) := by decide +kernel
theorem dX2_becomes_21 : decode cX2_becomes 21 = .ok (.if_icmp .eq 7, 3) := by decide +kernel
theorem dX2_becomes_24 : decode cX2_becomes 24 = .ok (.iload_n 2, 1) := by decide +kernel
theorem dX2_becomes_25 : decode cX2_becomes 25 = .ok (.ifCond .ne 15, 3) := by decide +kernel
theorem dX2_becomes_28 : decode cX2_becomes 28 = .ok (.iload 4, 2) := by decide +kernel
theorem dX2_becomes_30 : decode cX2_becomes 30 = .ok (.iconst 1, 1) := by decide +kernel
theorem dX2_becomes_31 : decode cX2_becomes 31 = .ok (.if_icmp .ne 7, 3) := by decide +kernel
theorem dX2_becomes_34 : decode cX2_becomes 34 = .ok (.iconst 1, 1) := by decide +kernel
theorem dX2_becomes_35 : decode cX2_becomes 35 = .ok (.goto 4, 3) := by decide +kernel
theorem dX2_becomes_38 : decode cX2_becomes 38 = .ok (.iconst 0, 1) := by decide +kernel
theorem dX2_becomes_39 : decode cX2_becomes 39 = .ok (.ireturn, 1) := by decide +kernel
theorem dX2_becomes_40 : decode cX2_becomes 40 = .ok (.aload_n 0, 1) := by decide +kernel
theorem dX2_becomes_41 : decode cX2_becomes 41 = .ok (.iload_n 1, 1) := by decide +kernel
theorem dX2_becomes_42 : decode cX2_becomes 42 = .ok (.iload_n 2, 1) := by decide +kernel
theorem dX2_becomes_43 : decode cX2_becomes 43 = .ok (.iload_n 3, 1) := by decide +kernel
theorem dX2_becomes_44 : decode cX2_becomes 44 = .ok (.invokevirtual 44, 3) := by decide +kernel
theorem dX2_becomes_47 : decode cX2_becomes 47 = .ok (.istore 5, 2) := by decide +kernel
theorem dX2_becomes_49 : decode cX2_becomes 49 = .ok (.aload_n 0, 1) := by decide +kernel
theorem dX2_becomes_50 : decode cX2_becomes 50 = .ok (.iload_n 1, 1) := by decide +kernel
theorem dX2_becomes_51 : decode cX2_becomes 51 = .ok (.iload_n 2, 1) := by decide +kernel
theorem dX2_becomes_52 : decode cX2_becomes 52 = .ok (.iload_n 3, 1) := by decide +kernel
theorem dX2_becomes_53 : decode cX2_becomes 53 = .ok (.invokevirtual 47, 3) := by decide +kernel
theorem dX2_becomes_56 : decode cX2_becomes 56 = .ok (.istore 6, 2) := by decide +kernel
theorem dX2_becomes_58 : decode cX2_becomes 58 = .ok (.aload_n 0, 1) := by decide +kernel
theorem dX2_becomes_59 : decode cX2_becomes 59 = .ok (.iload_n 1, 1) := by decide +kernel
theorem dX2_becomes_60 : decode cX2_becomes 60 = .ok (.iload_n 2, 1) := by decide +kernel
theorem dX2_becomes_61 : decode cX2_becomes 61 = .ok (.iload_n 3, 1) := by decide +kernel
theorem dX2_becomes_62 : decode cX2_becomes 62 = .ok (.invokevirtual 37, 3) := by decide +kernel
theorem dX2_becomes_65 : decode cX2_becomes 65 = .ok (.istore 7, 2) := by decide +kernel
theorem dX2_becomes_67 : decode cX2_becomes 67 = .ok (.iload 4, 2) := by decide +kernel
theorem dX2_becomes_69 : decode cX2_becomes 69 = .ok (.ifCond .ne 33, 3) := by decide +kernel
theorem dX2_becomes_72 : decode cX2_becomes 72 = .ok (.iload 5, 2) := by decide +kernel
theorem dX2_becomes_74 : decode cX2_becomes 74 = .ok (.iconst 1, 1) := by decide +kernel
theorem dX2_becomes_75 : decode cX2_becomes 75 = .ok (.if_icmp .eq 9, 3) := by decide +kernel
theorem dX2_becomes_78 : decode cX2_becomes 78 = .ok (.iload 5, 2) := by decide +kernel
theorem dX2_becomes_80 : decode cX2_becomes 80 = .ok (.iconst 2, 1) := by decide +kernel
theorem dX2_becomes_81 : decode cX2_becomes 81 = .ok (.if_icmp .ne 19, 3) := by decide +kernel
theorem dX2_becomes_84 : decode cX2_becomes 84 = .ok (.iload 6, 2) := by decide +kernel
theorem dX2_becomes_86 : decode cX2_becomes 86 = .ok (.iconst 3, 1) := by decide +kernel
theorem dX2_becomes_87 : decode cX2_becomes 87 = .ok (.if_icmp .gt 13, 3) := by decide +kernel
theorem dX2_becomes_90 : decode cX2_becomes 90 = .ok (.iload 7, 2) := by decide +kernel
theorem dX2_becomes_92 : decode cX2_becomes 92 = .ok (.iconst 2, 1) := by decide +kernel
theorem dX2_becomes_93 : decode cX2_becomes 93 = .ok (.if_icmp .gt 7, 3) := by decide +kernel
theorem dX2_becomes_96 : decode cX2_becomes 96 = .ok (.iconst 1, 1) := by decide +kernel
theorem dX2_becomes_97 : decode cX2_becomes 97 = .ok (.goto 4, 3) := by decide +kernel
theorem dX2_becomes_100 : decode cX2_becomes 100 = .ok (.iconst 0, 1) := by decide +kernel
theorem dX2_becomes_101 : decode cX2_becomes 101 = .ok (.ireturn, 1) := by decide +kernel
theorem dX2_becomes_102 : decode cX2_becomes 102 = .ok (.iload 5, 2) := by decide +kernel
theorem dX2_becomes_104 : decode cX2_becomes 104 = .ok (.ifCond .eq 15, 3) := by decide +kernel
theorem dX2_becomes_107 : decode cX2_becomes 107 = .ok (.iload 6, 2) := by decide +kernel
theorem dX2_becomes_109 : decode cX2_becomes 109 = .ok (.iconst 5, 1) := by decide +kernel
theorem dX2_becomes_110 : decode cX2_becomes 110 = .ok (.if_icmp .gt 9, 3) := by decide +kernel
theorem dX2_becomes_113 : decode cX2_becomes 113 = .ok (.iload 7, 2) := by decide +kernel
theorem dX2_becomes_115 : decode cX2_becomes 115 = .ok (.iconst 4, 1) := by decide +kernel
theorem dX2_becomes_116 : decode cX2_becomes 116 = .ok (.if_icmp .le 7, 3) := by decide +kernel
theorem dX2_becomes_119 : decode cX2_becomes 119 = .ok (.iconst 0, 1) := by decide +kernel
theorem dX2_becomes_120 : decode cX2_becomes 120 = .ok (.goto 4, 3) := by decide +kernel
theorem dX2_becomes_123 : decode cX2_becomes 123 = .ok (.iconst 1, 1) := by decide +kernel
theorem dX2_becomes_124 : decode cX2_becomes 124 = .ok (.ireturn, 1) := by decide +kernel
set_option maxRecDepth 20000 in
theorem ggX2_breaks_X2_inColumn : GoodIn wsX2_breaks wsX2_inColumn := goodIn_r _ [7, 8, 9, 10, 6, 11, 12, 2, 13, 14, 15, 16, 17, 18, 19, 20, 21, 22, 23, 24, 25, 26, 27] (by decide +kernel) (by decide +kernel)
set_option maxRecDepth 20000 in
theorem gX2_breaks_X2_inColumn : GoodIn wsX2_breaks (wsV RX2 40 RX2 yX2_inColumn wsX2_inColumn) := goodIn_app (goodIn_of _ (by decide +kernel)) ggX2_breaks_X2_inColumn
set_option maxRecDepth 20000 in
theorem ggX2_breaks_X2_leafAt : GoodIn wsX2_breaks wsX2_leafAt := goodIn_r _ [11, 12, 2, 13, 14, 6, 15, 20, 21, 22, 23, 24, 25, 26, 27] (by decide +kernel) (by decide +kernel)
set_option maxRecDepth 20000 in
theorem gX2_breaks_X2_leafAt : GoodIn wsX2_breaks (wsV RX2 30 RX2 yX2_leafAt wsX2_leafAt) := goodIn_app (goodIn_of _ (by decide +kernel)) ggX2_breaks_X2_leafAt
theorem dX2_breaks_0 : decode cX2_breaks 0 = .ok (.iconst 0, 1) := by decide +kernel
theorem dX2_breaks_1 : decode cX2_breaks 1 = .ok (.istore_n 2, 1) := by decide +kernel
theorem dX2_breaks_2 : decode cX2_breaks 2 = .ok (.iconst 0, 1) := by decide +kernel
theorem dX2_breaks_3 : decode cX2_breaks 3 = .ok (.istore_n 3, 1) := by decide +kernel
theorem dX2_breaks_4 : decode cX2_breaks 4 = .ok (.iload_n 3, 1) := by decide +kernel
theorem dX2_breaks_5 : decode cX2_breaks 5 = .ok (.bipush 12, 2) := by decide +kernel
theorem dX2_breaks_7 : decode cX2_breaks 7 = .ok (.if_icmp .ge 80, 3) := by decide +kernel
theorem dX2_breaks_10 : decode cX2_breaks 10 = .ok (.aload_n 0, 1) := by decide +kernel
theorem dX2_breaks_11 : decode cX2_breaks 11 = .ok (.iload_n 1, 1) := by decide +kernel
theorem dX2_breaks_12 : decode cX2_breaks 12 = .ok (.iload_n 3, 1) := by decide +kernel
theorem dX2_breaks_13 : decode cX2_breaks 13 = .ok (.invokevirtual 40, 3) := by decide +kernel
theorem dX2_breaks_16 : decode cX2_breaks 16 = .ok (.aload_n 0, 1) := by decide +kernel
theorem dX2_breaks_17 : decode cX2_breaks 17 = .ok (.getfield 13, 3) := by decide +kernel
theorem dX2_breaks_20 : decode cX2_breaks 20 = .ok (.iload_n 3, 1) := by decide +kernel
theorem dX2_breaks_21 : decode cX2_breaks 21 = .ok (.iaload, 1) := by decide +kernel
theorem dX2_breaks_22 : decode cX2_breaks 22 = .ok (.isub, 1) := by decide +kernel
theorem dX2_breaks_23 : decode cX2_breaks 23 = .ok (.istore 4, 2) := by decide +kernel
theorem dX2_breaks_25 : decode cX2_breaks 25 = .ok (.bipush 7, 2) := by decide +kernel
theorem dX2_breaks_27 : decode cX2_breaks 27 = .ok (.istore 5, 2) := by decide +kernel
theorem dX2_breaks_29 : decode cX2_breaks 29 = .ok (.iload 5, 2) := by decide +kernel
theorem dX2_breaks_31 : decode cX2_breaks 31 = .ok (.ifCond .lt 50, 3) := by decide +kernel
theorem dX2_breaks_34 : decode cX2_breaks 34 = .ok (.iload 4, 2) := by decide +kernel
theorem dX2_breaks_36 : decode cX2_breaks 36 = .ok (.ifCond .le 45, 3) := by decide +kernel
theorem dX2_breaks_39 : decode cX2_breaks 39 = .ok (.aload_n 0, 1) := by decide +kernel
theorem dX2_breaks_40 : decode cX2_breaks 40 = .ok (.iload_n 1, 1) := by decide +kernel
theorem dX2_breaks_41 : decode cX2_breaks 41 = .ok (.iload 5, 2) := by decide +kernel
theorem dX2_breaks_43 : decode cX2_breaks 43 = .ok (.iload_n 3, 1) := by decide +kernel
theorem dX2_breaks_44 : decode cX2_breaks 44 = .ok (.invokevirtual 30, 3) := by decide +kernel
theorem dX2_breaks_47 : decode cX2_breaks 47 = .ok (.iconst 1, 1) := by decide +kernel
theorem dX2_breaks_48 : decode cX2_breaks 48 = .ok (.if_icmp .ne 27, 3) := by decide +kernel
theorem dX2_breaks_51 : decode cX2_breaks 51 = .ok (.aload_n 0, 1) := by decide +kernel
theorem dX2_breaks_52 : decode cX2_breaks 52 = .ok (.getfield 7, 3) := by decide +kernel
theorem dX2_breaks_55 : decode cX2_breaks 55 = .ok (.bipush 96, 2) := by decide +kernel
theorem dX2_breaks_57 : decode cX2_breaks 57 = .ok (.iload_n 1, 1) := by decide +kernel
theorem dX2_breaks_58 : decode cX2_breaks 58 = .ok (.imul, 1) := by decide +kernel
theorem dX2_breaks_59 : decode cX2_breaks 59 = .ok (.bipush 12, 2) := by decide +kernel
theorem dX2_breaks_61 : decode cX2_breaks 61 = .ok (.iload 5, 2) := by decide +kernel
theorem dX2_breaks_63 : decode cX2_breaks 63 = .ok (.imul, 1) := by decide +kernel
theorem dX2_breaks_64 : decode cX2_breaks 64 = .ok (.iadd, 1) := by decide +kernel
theorem dX2_breaks_65 : decode cX2_breaks 65 = .ok (.iload_n 3, 1) := by decide +kernel
theorem dX2_breaks_66 : decode cX2_breaks 66 = .ok (.iadd, 1) := by decide +kernel
theorem dX2_breaks_67 : decode cX2_breaks 67 = .ok (.iconst 0, 1) := by decide +kernel
theorem dX2_breaks_68 : decode cX2_breaks 68 = .ok (.iastore, 1) := by decide +kernel
theorem dX2_breaks_69 : decode cX2_breaks 69 = .ok (.iinc 4 (-1), 3) := by decide +kernel
theorem dX2_breaks_72 : decode cX2_breaks 72 = .ok (.iinc 2 1, 3) := by decide +kernel
theorem dX2_breaks_75 : decode cX2_breaks 75 = .ok (.iinc 5 (-1), 3) := by decide +kernel
theorem dX2_breaks_78 : decode cX2_breaks 78 = .ok (.goto (-49), 3) := by decide +kernel
theorem dX2_breaks_81 : decode cX2_breaks 81 = .ok (.iinc 3 1, 3) := by decide +kernel
theorem dX2_breaks_84 : decode cX2_breaks 84 = .ok (.goto (-80), 3) := by decide +kernel
theorem dX2_breaks_87 : decode cX2_breaks 87 = .ok (.iload_n 2, 1) := by decide +kernel
theorem dX2_breaks_88 : decode cX2_breaks 88 = .ok (.ireturn, 1) := by decide +kernel
set_option maxRecDepth 20000 in
theorem ggX2_grows_X2_becomes : GoodIn wsX2_grows wsX2_becomes := goodIn_r _ [6, 1, 7, 8, 9, 5, 10, 11, 12, 13, 14, 15, 16, 17, 18, 19, 20, 21, 22, 23, 24, 25, 26, 27, 28, 29, 30, 40, 41, 42, 43, 44, 45, 46, 47] (by decide +kernel) (by decide +kernel)
set_option maxRecDepth 20000 in
theorem gX2_grows_X2_becomes : GoodIn wsX2_grows (wsV RX2 50 RX2 yX2_becomes wsX2_becomes) := goodIn_app (goodIn_of _ (by decide +kernel)) ggX2_grows_X2_becomes
set_option maxRecDepth 20000 in
theorem ggX2_grows_X2_breaks : GoodIn wsX2_grows wsX2_breaks := goodIn_r _ [34, 35, 1, 36, 37, 38, 5, 39, 15, 16, 17, 18, 19, 20, 21, 22, 27, 28, 29, 30, 40, 41, 42, 43, 44, 45, 46, 47] (by decide +kernel) (by decide +kernel)
set_option maxRecDepth 20000 in
theorem gX2_grows_X2_breaks : GoodIn wsX2_grows (wsV RX2 53 RX2 yX2_breaks wsX2_breaks) := goodIn_app (goodIn_of _ (by decide +kernel)) ggX2_grows_X2_breaks
theorem dX2_grows_0 : decode cX2_grows 0 = .ok (.iconst 0, 1) := by decide +kernel
theorem dX2_grows_1 : decode cX2_grows 1 = .ok (.istore_n 3, 1) := by decide +kernel
theorem dX2_grows_2 : decode cX2_grows 2 = .ok (.iload_n 3, 1) := by decide +kernel
theorem dX2_grows_3 : decode cX2_grows 3 = .ok (.bipush 8, 2) := by decide +kernel
theorem dX2_grows_5 : decode cX2_grows 5 = .ok (.if_icmp .ge 50, 3) := by decide +kernel
theorem dX2_grows_8 : decode cX2_grows 8 = .ok (.iconst 0, 1) := by decide +kernel
theorem dX2_grows_9 : decode cX2_grows 9 = .ok (.istore 4, 2) := by decide +kernel
theorem dX2_grows_11 : decode cX2_grows 11 = .ok (.iload 4, 2) := by decide +kernel
theorem dX2_grows_13 : decode cX2_grows 13 = .ok (.bipush 12, 2) := by decide +kernel
theorem dX2_grows_15 : decode cX2_grows 15 = .ok (.if_icmp .ge 34, 3) := by decide +kernel
theorem dX2_grows_18 : decode cX2_grows 18 = .ok (.aload_n 0, 1) := by decide +kernel
theorem dX2_grows_19 : decode cX2_grows 19 = .ok (.getfield 7, 3) := by decide +kernel
theorem dX2_grows_22 : decode cX2_grows 22 = .ok (.bipush 96, 2) := by decide +kernel
theorem dX2_grows_24 : decode cX2_grows 24 = .ok (.iload_n 2, 1) := by decide +kernel
theorem dX2_grows_25 : decode cX2_grows 25 = .ok (.imul, 1) := by decide +kernel
theorem dX2_grows_26 : decode cX2_grows 26 = .ok (.bipush 12, 2) := by decide +kernel
theorem dX2_grows_28 : decode cX2_grows 28 = .ok (.iload_n 3, 1) := by decide +kernel
theorem dX2_grows_29 : decode cX2_grows 29 = .ok (.imul, 1) := by decide +kernel
theorem dX2_grows_30 : decode cX2_grows 30 = .ok (.iadd, 1) := by decide +kernel
theorem dX2_grows_31 : decode cX2_grows 31 = .ok (.iload 4, 2) := by decide +kernel
theorem dX2_grows_33 : decode cX2_grows 33 = .ok (.iadd, 1) := by decide +kernel
theorem dX2_grows_34 : decode cX2_grows 34 = .ok (.aload_n 0, 1) := by decide +kernel
theorem dX2_grows_35 : decode cX2_grows 35 = .ok (.iload_n 1, 1) := by decide +kernel
theorem dX2_grows_36 : decode cX2_grows 36 = .ok (.iload_n 3, 1) := by decide +kernel
theorem dX2_grows_37 : decode cX2_grows 37 = .ok (.iload 4, 2) := by decide +kernel
theorem dX2_grows_39 : decode cX2_grows 39 = .ok (.invokevirtual 50, 3) := by decide +kernel
theorem dX2_grows_42 : decode cX2_grows 42 = .ok (.iastore, 1) := by decide +kernel
theorem dX2_grows_43 : decode cX2_grows 43 = .ok (.iinc 4 1, 3) := by decide +kernel
theorem dX2_grows_46 : decode cX2_grows 46 = .ok (.goto (-35), 3) := by decide +kernel
theorem dX2_grows_49 : decode cX2_grows 49 = .ok (.iinc 3 1, 3) := by decide +kernel
theorem dX2_grows_52 : decode cX2_grows 52 = .ok (.goto (-50), 3) := by decide +kernel
theorem dX2_grows_55 : decode cX2_grows 55 = .ok (.aload_n 0, 1) := by decide +kernel
theorem dX2_grows_56 : decode cX2_grows 56 = .ok (.iload_n 2, 1) := by decide +kernel
theorem dX2_grows_57 : decode cX2_grows 57 = .ok (.invokevirtual 53, 3) := by decide +kernel
theorem dX2_grows_60 : decode cX2_grows 60 = .ok (.ireturn, 1) := by decide +kernel
theorem dX2_copies_0 : decode cX2_copies 0 = .ok (.iconst 0, 1) := by decide +kernel
theorem dX2_copies_1 : decode cX2_copies 1 = .ok (.istore_n 3, 1) := by decide +kernel
theorem dX2_copies_2 : decode cX2_copies 2 = .ok (.iload_n 3, 1) := by decide +kernel
theorem dX2_copies_3 : decode cX2_copies 3 = .ok (.bipush 96, 2) := by decide +kernel
theorem dX2_copies_5 : decode cX2_copies 5 = .ok (.if_icmp .ge 31, 3) := by decide +kernel
theorem dX2_copies_8 : decode cX2_copies 8 = .ok (.aload_n 0, 1) := by decide +kernel
theorem dX2_copies_9 : decode cX2_copies 9 = .ok (.getfield 7, 3) := by decide +kernel
theorem dX2_copies_12 : decode cX2_copies 12 = .ok (.bipush 96, 2) := by decide +kernel
theorem dX2_copies_14 : decode cX2_copies 14 = .ok (.iload_n 2, 1) := by decide +kernel
theorem dX2_copies_15 : decode cX2_copies 15 = .ok (.imul, 1) := by decide +kernel
theorem dX2_copies_16 : decode cX2_copies 16 = .ok (.iload_n 3, 1) := by decide +kernel
theorem dX2_copies_17 : decode cX2_copies 17 = .ok (.iadd, 1) := by decide +kernel
theorem dX2_copies_18 : decode cX2_copies 18 = .ok (.aload_n 0, 1) := by decide +kernel
theorem dX2_copies_19 : decode cX2_copies 19 = .ok (.getfield 7, 3) := by decide +kernel
theorem dX2_copies_22 : decode cX2_copies 22 = .ok (.bipush 96, 2) := by decide +kernel
theorem dX2_copies_24 : decode cX2_copies 24 = .ok (.iload_n 1, 1) := by decide +kernel
theorem dX2_copies_25 : decode cX2_copies 25 = .ok (.imul, 1) := by decide +kernel
theorem dX2_copies_26 : decode cX2_copies 26 = .ok (.iload_n 3, 1) := by decide +kernel
theorem dX2_copies_27 : decode cX2_copies 27 = .ok (.iadd, 1) := by decide +kernel
theorem dX2_copies_28 : decode cX2_copies 28 = .ok (.iaload, 1) := by decide +kernel
theorem dX2_copies_29 : decode cX2_copies 29 = .ok (.iastore, 1) := by decide +kernel
theorem dX2_copies_30 : decode cX2_copies 30 = .ok (.iinc 3 1, 3) := by decide +kernel
theorem dX2_copies_33 : decode cX2_copies 33 = .ok (.goto (-31), 3) := by decide +kernel
theorem dX2_copies_36 : decode cX2_copies 36 = .ok (.return_, 1) := by decide +kernel
theorem dX2_sides_0 : decode cX2_sides 0 = .ok (.aload_n 0, 1) := by decide +kernel
theorem dX2_sides_1 : decode cX2_sides 1 = .ok (.iload_n 1, 1) := by decide +kernel
theorem dX2_sides_2 : decode cX2_sides 2 = .ok (.ifCond .lt 8, 3) := by decide +kernel
theorem dX2_sides_5 : decode cX2_sides 5 = .ok (.iload_n 1, 1) := by decide +kernel
theorem dX2_sides_6 : decode cX2_sides 6 = .ok (.iconst 2, 1) := by decide +kernel
theorem dX2_sides_7 : decode cX2_sides 7 = .ok (.if_icmp .le 7, 3) := by decide +kernel
theorem dX2_sides_10 : decode cX2_sides 10 = .ok (.iconst 1, 1) := by decide +kernel
theorem dX2_sides_11 : decode cX2_sides 11 = .ok (.goto 15, 3) := by decide +kernel
theorem dX2_sides_14 : decode cX2_sides 14 = .ok (.aload_n 0, 1) := by decide +kernel
theorem dX2_sides_15 : decode cX2_sides 15 = .ok (.getfield 57, 3) := by decide +kernel
theorem dX2_sides_18 : decode cX2_sides 18 = .ok (.ifCond .le 7, 3) := by decide +kernel
theorem dX2_sides_21 : decode cX2_sides 21 = .ok (.iconst 2, 1) := by decide +kernel
theorem dX2_sides_22 : decode cX2_sides 22 = .ok (.goto 4, 3) := by decide +kernel
theorem dX2_sides_25 : decode cX2_sides 25 = .ok (.iconst 0, 1) := by decide +kernel
theorem dX2_sides_26 : decode cX2_sides 26 = .ok (.putfield 20, 3) := by decide +kernel
theorem dX2_sides_29 : decode cX2_sides 29 = .ok (.aload_n 0, 1) := by decide +kernel
theorem dX2_sides_30 : decode cX2_sides 30 = .ok (.aload_n 0, 1) := by decide +kernel
theorem dX2_sides_31 : decode cX2_sides 31 = .ok (.getfield 20, 3) := by decide +kernel
theorem dX2_sides_34 : decode cX2_sides 34 = .ok (.ifCond .ne 7, 3) := by decide +kernel
theorem dX2_sides_37 : decode cX2_sides 37 = .ok (.iload_n 1, 1) := by decide +kernel
theorem dX2_sides_38 : decode cX2_sides 38 = .ok (.goto 7, 3) := by decide +kernel
theorem dX2_sides_41 : decode cX2_sides 41 = .ok (.aload_n 0, 1) := by decide +kernel
theorem dX2_sides_42 : decode cX2_sides 42 = .ok (.getfield 27, 3) := by decide +kernel
theorem dX2_sides_45 : decode cX2_sides 45 = .ok (.putfield 27, 3) := by decide +kernel
theorem dX2_sides_48 : decode cX2_sides 48 = .ok (.return_, 1) := by decide +kernel
set_option maxRecDepth 20000 in
theorem ggX2_plant_X2_isColumn : GoodIn wsX2_plant wsX2_isColumn := goodIn_r _ [7] (by decide +kernel) (by decide +kernel)
set_option maxRecDepth 20000 in
theorem gX2_plant_X2_isColumn : GoodIn wsX2_plant (va_wsS RX2 23 yX2_isColumn wsX2_isColumn) := goodIn_app (goodIn_of _ (by decide +kernel)) ggX2_plant_X2_isColumn
theorem dX2_plant_0 : decode cX2_plant 0 = .ok (.aload_n 0, 1) := by decide +kernel
theorem dX2_plant_1 : decode cX2_plant 1 = .ok (.iload_n 1, 1) := by decide +kernel
theorem dX2_plant_2 : decode cX2_plant 2 = .ok (.invokestatic 23, 3) := by decide +kernel
theorem dX2_plant_5 : decode cX2_plant 5 = .ok (.ifCond .ne 7, 3) := by decide +kernel
theorem dX2_plant_8 : decode cX2_plant 8 = .ok (.iconst 1, 1) := by decide +kernel
theorem dX2_plant_9 : decode cX2_plant 9 = .ok (.goto 25, 3) := by decide +kernel
theorem dX2_plant_12 : decode cX2_plant 12 = .ok (.aload_n 0, 1) := by decide +kernel
theorem dX2_plant_13 : decode cX2_plant 13 = .ok (.getfield 7, 3) := by decide +kernel
theorem dX2_plant_16 : decode cX2_plant 16 = .ok (.iload_n 1, 1) := by decide +kernel
theorem dX2_plant_17 : decode cX2_plant 17 = .ok (.iaload, 1) := by decide +kernel
theorem dX2_plant_18 : decode cX2_plant 18 = .ok (.ifCond .ne 11, 3) := by decide +kernel
theorem dX2_plant_21 : decode cX2_plant 21 = .ok (.aload_n 0, 1) := by decide +kernel
theorem dX2_plant_22 : decode cX2_plant 22 = .ok (.getfield 60, 3) := by decide +kernel
theorem dX2_plant_25 : decode cX2_plant 25 = .ok (.iconst 4, 1) := by decide +kernel
theorem dX2_plant_26 : decode cX2_plant 26 = .ok (.if_icmp .ne 7, 3) := by decide +kernel
theorem dX2_plant_29 : decode cX2_plant 29 = .ok (.iconst 2, 1) := by decide +kernel
theorem dX2_plant_30 : decode cX2_plant 30 = .ok (.goto 4, 3) := by decide +kernel
theorem dX2_plant_33 : decode cX2_plant 33 = .ok (.iconst 0, 1) := by decide +kernel
theorem dX2_plant_34 : decode cX2_plant 34 = .ok (.putfield 20, 3) := by decide +kernel
theorem dX2_plant_37 : decode cX2_plant 37 = .ok (.aload_n 0, 1) := by decide +kernel
theorem dX2_plant_38 : decode cX2_plant 38 = .ok (.getfield 20, 3) := by decide +kernel
theorem dX2_plant_41 : decode cX2_plant 41 = .ok (.ifCond .ne 20, 3) := by decide +kernel
theorem dX2_plant_44 : decode cX2_plant 44 = .ok (.aload_n 0, 1) := by decide +kernel
theorem dX2_plant_45 : decode cX2_plant 45 = .ok (.getfield 7, 3) := by decide +kernel
theorem dX2_plant_48 : decode cX2_plant 48 = .ok (.iload_n 1, 1) := by decide +kernel
theorem dX2_plant_49 : decode cX2_plant 49 = .ok (.iconst 1, 1) := by decide +kernel
theorem dX2_plant_50 : decode cX2_plant 50 = .ok (.iastore, 1) := by decide +kernel
theorem dX2_plant_51 : decode cX2_plant 51 = .ok (.aload_n 0, 1) := by decide +kernel
theorem dX2_plant_52 : decode cX2_plant 52 = .ok (.dup, 1) := by decide +kernel
theorem dX2_plant_53 : decode cX2_plant 53 = .ok (.getfield 60, 3) := by decide +kernel
theorem dX2_plant_56 : decode cX2_plant 56 = .ok (.iconst 1, 1) := by decide +kernel
theorem dX2_plant_57 : decode cX2_plant 57 = .ok (.iadd, 1) := by decide +kernel
theorem dX2_plant_58 : decode cX2_plant 58 = .ok (.putfield 60, 3) := by decide +kernel
theorem dX2_plant_61 : decode cX2_plant 61 = .ok (.return_, 1) := by decide +kernel
set_option maxRecDepth 20000 in
theorem ggX2_trellis_X2_isColumn : GoodIn wsX2_trellis wsX2_isColumn := goodIn_r _ [6] (by decide +kernel) (by decide +kernel)
set_option maxRecDepth 20000 in
theorem gX2_trellis_X2_isColumn : GoodIn wsX2_trellis (va_wsS RX2 23 yX2_isColumn wsX2_isColumn) := goodIn_app (goodIn_of _ (by decide +kernel)) ggX2_trellis_X2_isColumn
theorem dX2_trellis_0 : decode cX2_trellis 0 = .ok (.aload_n 0, 1) := by decide +kernel
theorem dX2_trellis_1 : decode cX2_trellis 1 = .ok (.iload_n 1, 1) := by decide +kernel
theorem dX2_trellis_2 : decode cX2_trellis 2 = .ok (.invokestatic 23, 3) := by decide +kernel
theorem dX2_trellis_5 : decode cX2_trellis 5 = .ok (.ifCond .ne 7, 3) := by decide +kernel
theorem dX2_trellis_8 : decode cX2_trellis 8 = .ok (.iconst 1, 1) := by decide +kernel
theorem dX2_trellis_9 : decode cX2_trellis 9 = .ok (.goto 19, 3) := by decide +kernel
theorem dX2_trellis_12 : decode cX2_trellis 12 = .ok (.iload_n 2, 1) := by decide +kernel
theorem dX2_trellis_13 : decode cX2_trellis 13 = .ok (.iconst 1, 1) := by decide +kernel
theorem dX2_trellis_14 : decode cX2_trellis 14 = .ok (.if_icmp .lt 9, 3) := by decide +kernel
theorem dX2_trellis_17 : decode cX2_trellis 17 = .ok (.iload_n 2, 1) := by decide +kernel
theorem dX2_trellis_18 : decode cX2_trellis 18 = .ok (.bipush 8, 2) := by decide +kernel
theorem dX2_trellis_20 : decode cX2_trellis 20 = .ok (.if_icmp .le 7, 3) := by decide +kernel
theorem dX2_trellis_23 : decode cX2_trellis 23 = .ok (.iconst 2, 1) := by decide +kernel
theorem dX2_trellis_24 : decode cX2_trellis 24 = .ok (.goto 4, 3) := by decide +kernel
theorem dX2_trellis_27 : decode cX2_trellis 27 = .ok (.iconst 0, 1) := by decide +kernel
theorem dX2_trellis_28 : decode cX2_trellis 28 = .ok (.putfield 20, 3) := by decide +kernel
theorem dX2_trellis_31 : decode cX2_trellis 31 = .ok (.aload_n 0, 1) := by decide +kernel
theorem dX2_trellis_32 : decode cX2_trellis 32 = .ok (.getfield 20, 3) := by decide +kernel
theorem dX2_trellis_35 : decode cX2_trellis 35 = .ok (.ifCond .eq 5, 3) := by decide +kernel
theorem dX2_trellis_38 : decode cX2_trellis 38 = .ok (.iconst 0, 1) := by decide +kernel
theorem dX2_trellis_39 : decode cX2_trellis 39 = .ok (.ireturn, 1) := by decide +kernel
theorem dX2_trellis_40 : decode cX2_trellis 40 = .ok (.aload_n 0, 1) := by decide +kernel
theorem dX2_trellis_41 : decode cX2_trellis 41 = .ok (.getfield 13, 3) := by decide +kernel
theorem dX2_trellis_44 : decode cX2_trellis 44 = .ok (.iload_n 1, 1) := by decide +kernel
theorem dX2_trellis_45 : decode cX2_trellis 45 = .ok (.iaload, 1) := by decide +kernel
theorem dX2_trellis_46 : decode cX2_trellis 46 = .ok (.istore_n 3, 1) := by decide +kernel
theorem dX2_trellis_47 : decode cX2_trellis 47 = .ok (.aload_n 0, 1) := by decide +kernel
theorem dX2_trellis_48 : decode cX2_trellis 48 = .ok (.getfield 13, 3) := by decide +kernel
theorem dX2_trellis_51 : decode cX2_trellis 51 = .ok (.iload_n 1, 1) := by decide +kernel
theorem dX2_trellis_52 : decode cX2_trellis 52 = .ok (.iload_n 2, 1) := by decide +kernel
theorem dX2_trellis_53 : decode cX2_trellis 53 = .ok (.iastore, 1) := by decide +kernel
theorem dX2_trellis_54 : decode cX2_trellis 54 = .ok (.iload_n 3, 1) := by decide +kernel
theorem dX2_trellis_55 : decode cX2_trellis 55 = .ok (.ireturn, 1) := by decide +kernel
set_option maxRecDepth 20000 in
theorem ggX2_cut_X2_isCell : GoodIn wsX2_cut wsX2_isCell := goodIn_r _ [7, 8, 9, 6, 10] (by decide +kernel) (by decide +kernel)
set_option maxRecDepth 20000 in
theorem gX2_cut_X2_isCell : GoodIn wsX2_cut (va_wsS RX2 63 yX2_isCell wsX2_isCell) := goodIn_app (goodIn_of _ (by decide +kernel)) ggX2_cut_X2_isCell
theorem dX2_cut_0 : decode cX2_cut 0 = .ok (.aload_n 0, 1) := by decide +kernel
theorem dX2_cut_1 : decode cX2_cut 1 = .ok (.iload_n 1, 1) := by decide +kernel
theorem dX2_cut_2 : decode cX2_cut 2 = .ok (.iload_n 2, 1) := by decide +kernel
theorem dX2_cut_3 : decode cX2_cut 3 = .ok (.invokestatic 63, 3) := by decide +kernel
theorem dX2_cut_6 : decode cX2_cut 6 = .ok (.ifCond .ne 7, 3) := by decide +kernel
theorem dX2_cut_9 : decode cX2_cut 9 = .ok (.iconst 1, 1) := by decide +kernel
theorem dX2_cut_10 : decode cX2_cut 10 = .ok (.goto 30, 3) := by decide +kernel
theorem dX2_cut_13 : decode cX2_cut 13 = .ok (.aload_n 0, 1) := by decide +kernel
theorem dX2_cut_14 : decode cX2_cut 14 = .ok (.getfield 7, 3) := by decide +kernel
theorem dX2_cut_17 : decode cX2_cut 17 = .ok (.bipush 12, 2) := by decide +kernel
theorem dX2_cut_19 : decode cX2_cut 19 = .ok (.iload_n 1, 1) := by decide +kernel
theorem dX2_cut_20 : decode cX2_cut 20 = .ok (.imul, 1) := by decide +kernel
theorem dX2_cut_21 : decode cX2_cut 21 = .ok (.iload_n 2, 1) := by decide +kernel
theorem dX2_cut_22 : decode cX2_cut 22 = .ok (.iadd, 1) := by decide +kernel
theorem dX2_cut_23 : decode cX2_cut 23 = .ok (.iaload, 1) := by decide +kernel
theorem dX2_cut_24 : decode cX2_cut 24 = .ok (.iconst 1, 1) := by decide +kernel
theorem dX2_cut_25 : decode cX2_cut 25 = .ok (.if_icmp .ne 10, 3) := by decide +kernel
theorem dX2_cut_28 : decode cX2_cut 28 = .ok (.aload_n 0, 1) := by decide +kernel
theorem dX2_cut_29 : decode cX2_cut 29 = .ok (.getfield 16, 3) := by decide +kernel
theorem dX2_cut_32 : decode cX2_cut 32 = .ok (.ifCond .ne 7, 3) := by decide +kernel
theorem dX2_cut_35 : decode cX2_cut 35 = .ok (.iconst 2, 1) := by decide +kernel
theorem dX2_cut_36 : decode cX2_cut 36 = .ok (.goto 4, 3) := by decide +kernel
theorem dX2_cut_39 : decode cX2_cut 39 = .ok (.iconst 0, 1) := by decide +kernel
theorem dX2_cut_40 : decode cX2_cut 40 = .ok (.putfield 20, 3) := by decide +kernel
theorem dX2_cut_43 : decode cX2_cut 43 = .ok (.aload_n 0, 1) := by decide +kernel
theorem dX2_cut_44 : decode cX2_cut 44 = .ok (.getfield 20, 3) := by decide +kernel
theorem dX2_cut_47 : decode cX2_cut 47 = .ok (.ifCond .eq 5, 3) := by decide +kernel
theorem dX2_cut_50 : decode cX2_cut 50 = .ok (.iconst 0, 1) := by decide +kernel
theorem dX2_cut_51 : decode cX2_cut 51 = .ok (.ireturn, 1) := by decide +kernel
theorem dX2_cut_52 : decode cX2_cut 52 = .ok (.aload_n 0, 1) := by decide +kernel
theorem dX2_cut_53 : decode cX2_cut 53 = .ok (.getfield 7, 3) := by decide +kernel
theorem dX2_cut_56 : decode cX2_cut 56 = .ok (.bipush 12, 2) := by decide +kernel
theorem dX2_cut_58 : decode cX2_cut 58 = .ok (.iload_n 1, 1) := by decide +kernel
theorem dX2_cut_59 : decode cX2_cut 59 = .ok (.imul, 1) := by decide +kernel
theorem dX2_cut_60 : decode cX2_cut 60 = .ok (.iload_n 2, 1) := by decide +kernel
theorem dX2_cut_61 : decode cX2_cut 61 = .ok (.iadd, 1) := by decide +kernel
theorem dX2_cut_62 : decode cX2_cut 62 = .ok (.iconst 2, 1) := by decide +kernel
theorem dX2_cut_63 : decode cX2_cut 63 = .ok (.iastore, 1) := by decide +kernel
theorem dX2_cut_64 : decode cX2_cut 64 = .ok (.aload_n 0, 1) := by decide +kernel
theorem dX2_cut_65 : decode cX2_cut 65 = .ok (.dup, 1) := by decide +kernel
theorem dX2_cut_66 : decode cX2_cut 66 = .ok (.getfield 16, 3) := by decide +kernel
theorem dX2_cut_69 : decode cX2_cut 69 = .ok (.iconst 1, 1) := by decide +kernel
theorem dX2_cut_70 : decode cX2_cut 70 = .ok (.isub, 1) := by decide +kernel
theorem dX2_cut_71 : decode cX2_cut 71 = .ok (.putfield 16, 3) := by decide +kernel
theorem dX2_cut_74 : decode cX2_cut 74 = .ok (.aload_n 0, 1) := by decide +kernel
theorem dX2_cut_75 : decode cX2_cut 75 = .ok (.getfield 16, 3) := by decide +kernel
theorem dX2_cut_78 : decode cX2_cut 78 = .ok (.ireturn, 1) := by decide +kernel
set_option maxRecDepth 20000 in
theorem ggX2_grow_X2_allLeaves : GoodIn wsX2_grow wsX2_allLeaves := goodIn_r _ [9, 10, 11, 12, 8, 13, 14, 15, 16, 17, 18, 19, 20, 21, 22, 23, 24, 25, 26, 56, 57, 58, 59, 60, 61, 62, 63] (by decide +kernel) (by decide +kernel)
set_option maxRecDepth 20000 in
theorem gX2_grow_X2_allLeaves : GoodIn wsX2_grow (wsV RX2 67 RX2 yX2_allLeaves wsX2_allLeaves) := goodIn_app (goodIn_of _ (by decide +kernel)) ggX2_grow_X2_allLeaves
set_option maxRecDepth 20000 in
theorem ggX2_grow_X2_grows : GoodIn wsX2_grow wsX2_grows := goodIn_r _ [30, 19, 31, 32, 33, 8, 34, 35, 36, 37, 38, 39, 40, 41, 42, 14, 15, 16, 17, 18, 20, 21, 22, 43, 44, 45, 46, 23, 24, 25, 26, 47, 48, 49, 50, 51, 10, 11, 12, 13, 56, 57, 58, 59, 60, 61, 62, 63] (by decide +kernel) (by decide +kernel)
set_option maxRecDepth 20000 in
theorem gX2_grow_X2_grows : GoodIn wsX2_grow (wsV RX2 73 RX2 yX2_grows wsX2_grows) := goodIn_app (goodIn_of _ (by decide +kernel)) ggX2_grow_X2_grows
set_option maxRecDepth 20000 in
theorem ggX2_grow_X2_copies : GoodIn wsX2_grow wsX2_copies := goodIn_r _ [55, 19, 56, 57, 58, 59, 60, 61, 62, 63] (by decide +kernel) (by decide +kernel)
set_option maxRecDepth 20000 in
theorem gX2_grow_X2_copies : GoodIn wsX2_grow (wsV RX2 76 RX2 yX2_copies wsX2_copies) := goodIn_app (goodIn_of _ (by decide +kernel)) ggX2_grow_X2_copies
theorem dX2_grow_0 : decode cX2_grow 0 = .ok (.aload_n 0, 1) := by decide +kernel
theorem dX2_grow_1 : decode cX2_grow 1 = .ok (.aload_n 0, 1) := by decide +kernel
theorem dX2_grow_2 : decode cX2_grow 2 = .ok (.getfield 57, 3) := by decide +kernel
theorem dX2_grow_5 : decode cX2_grow 5 = .ok (.bipush 60, 2) := by decide +kernel
theorem dX2_grow_7 : decode cX2_grow 7 = .ok (.if_icmp .ne 7, 3) := by decide +kernel
theorem dX2_grow_10 : decode cX2_grow 10 = .ok (.iconst 1, 1) := by decide +kernel
theorem dX2_grow_11 : decode cX2_grow 11 = .ok (.goto 4, 3) := by decide +kernel
theorem dX2_grow_14 : decode cX2_grow 14 = .ok (.iconst 0, 1) := by decide +kernel
theorem dX2_grow_15 : decode cX2_grow 15 = .ok (.putfield 20, 3) := by decide +kernel
theorem dX2_grow_18 : decode cX2_grow 18 = .ok (.aload_n 0, 1) := by decide +kernel
theorem dX2_grow_19 : decode cX2_grow 19 = .ok (.getfield 20, 3) := by decide +kernel
theorem dX2_grow_22 : decode cX2_grow 22 = .ok (.ifCond .eq 5, 3) := by decide +kernel
theorem dX2_grow_25 : decode cX2_grow 25 = .ok (.iconst 0, 1) := by decide +kernel
theorem dX2_grow_26 : decode cX2_grow 26 = .ok (.ireturn, 1) := by decide +kernel
theorem dX2_grow_27 : decode cX2_grow 27 = .ok (.aload_n 0, 1) := by decide +kernel
theorem dX2_grow_28 : decode cX2_grow 28 = .ok (.iconst 0, 1) := by decide +kernel
theorem dX2_grow_29 : decode cX2_grow 29 = .ok (.invokevirtual 67, 3) := by decide +kernel
theorem dX2_grow_32 : decode cX2_grow 32 = .ok (.istore_n 1, 1) := by decide +kernel
theorem dX2_grow_33 : decode cX2_grow 33 = .ok (.aload_n 0, 1) := by decide +kernel
theorem dX2_grow_34 : decode cX2_grow 34 = .ok (.dup, 1) := by decide +kernel
theorem dX2_grow_35 : decode cX2_grow 35 = .ok (.getfield 70, 3) := by decide +kernel
theorem dX2_grow_38 : decode cX2_grow 38 = .ok (.aload_n 0, 1) := by decide +kernel
theorem dX2_grow_39 : decode cX2_grow 39 = .ok (.iconst 0, 1) := by decide +kernel
theorem dX2_grow_40 : decode cX2_grow 40 = .ok (.iconst 1, 1) := by decide +kernel
theorem dX2_grow_41 : decode cX2_grow 41 = .ok (.invokevirtual 73, 3) := by decide +kernel
theorem dX2_grow_44 : decode cX2_grow 44 = .ok (.iadd, 1) := by decide +kernel
theorem dX2_grow_45 : decode cX2_grow 45 = .ok (.putfield 70, 3) := by decide +kernel
theorem dX2_grow_48 : decode cX2_grow 48 = .ok (.aload_n 0, 1) := by decide +kernel
theorem dX2_grow_49 : decode cX2_grow 49 = .ok (.iconst 1, 1) := by decide +kernel
theorem dX2_grow_50 : decode cX2_grow 50 = .ok (.iconst 0, 1) := by decide +kernel
theorem dX2_grow_51 : decode cX2_grow 51 = .ok (.invokevirtual 76, 3) := by decide +kernel
theorem dX2_grow_54 : decode cX2_grow 54 = .ok (.aload_n 0, 1) := by decide +kernel
theorem dX2_grow_55 : decode cX2_grow 55 = .ok (.dup, 1) := by decide +kernel
theorem dX2_grow_56 : decode cX2_grow 56 = .ok (.getfield 57, 3) := by decide +kernel
theorem dX2_grow_59 : decode cX2_grow 59 = .ok (.iconst 1, 1) := by decide +kernel
theorem dX2_grow_60 : decode cX2_grow 60 = .ok (.iadd, 1) := by decide +kernel
theorem dX2_grow_61 : decode cX2_grow 61 = .ok (.putfield 57, 3) := by decide +kernel
theorem dX2_grow_64 : decode cX2_grow 64 = .ok (.aload_n 0, 1) := by decide +kernel
theorem dX2_grow_65 : decode cX2_grow 65 = .ok (.iconst 3, 1) := by decide +kernel
theorem dX2_grow_66 : decode cX2_grow 66 = .ok (.putfield 16, 3) := by decide +kernel
theorem dX2_grow_69 : decode cX2_grow 69 = .ok (.aload_n 0, 1) := by decide +kernel
theorem dX2_grow_70 : decode cX2_grow 70 = .ok (.iconst 0, 1) := by decide +kernel
theorem dX2_grow_71 : decode cX2_grow 71 = .ok (.invokevirtual 67, 3) := by decide +kernel
theorem dX2_grow_74 : decode cX2_grow 74 = .ok (.iload_n 1, 1) := by decide +kernel
theorem dX2_grow_75 : decode cX2_grow 75 = .ok (.isub, 1) := by decide +kernel
theorem dX2_grow_76 : decode cX2_grow 76 = .ok (.ireturn, 1) := by decide +kernel
theorem dX2_clear_0 : decode cX2_clear 0 = .ok (.aload_n 0, 1) := by decide +kernel
theorem dX2_clear_1 : decode cX2_clear 1 = .ok (.iconst 0, 1) := by decide +kernel
theorem dX2_clear_2 : decode cX2_clear 2 = .ok (.putfield 20, 3) := by decide +kernel
theorem dX2_clear_5 : decode cX2_clear 5 = .ok (.iconst 0, 1) := by decide +kernel
theorem dX2_clear_6 : decode cX2_clear 6 = .ok (.istore_n 1, 1) := by decide +kernel
theorem dX2_clear_7 : decode cX2_clear 7 = .ok (.iload_n 1, 1) := by decide +kernel
theorem dX2_clear_8 : decode cX2_clear 8 = .ok (.bipush 96, 2) := by decide +kernel
theorem dX2_clear_10 : decode cX2_clear 10 = .ok (.if_icmp .ge 16, 3) := by decide +kernel
theorem dX2_clear_13 : decode cX2_clear 13 = .ok (.aload_n 0, 1) := by decide +kernel
theorem dX2_clear_14 : decode cX2_clear 14 = .ok (.getfield 7, 3) := by decide +kernel
theorem dX2_clear_17 : decode cX2_clear 17 = .ok (.iload_n 1, 1) := by decide +kernel
theorem dX2_clear_18 : decode cX2_clear 18 = .ok (.iconst 0, 1) := by decide +kernel
theorem dX2_clear_19 : decode cX2_clear 19 = .ok (.iastore, 1) := by decide +kernel
theorem dX2_clear_20 : decode cX2_clear 20 = .ok (.iinc 1 1, 3) := by decide +kernel
theorem dX2_clear_23 : decode cX2_clear 23 = .ok (.goto (-16), 3) := by decide +kernel
theorem dX2_clear_26 : decode cX2_clear 26 = .ok (.aload_n 0, 1) := by decide +kernel
theorem dX2_clear_27 : decode cX2_clear 27 = .ok (.iconst 0, 1) := by decide +kernel
theorem dX2_clear_28 : decode cX2_clear 28 = .ok (.putfield 57, 3) := by decide +kernel
theorem dX2_clear_31 : decode cX2_clear 31 = .ok (.aload_n 0, 1) := by decide +kernel
theorem dX2_clear_32 : decode cX2_clear 32 = .ok (.iconst 3, 1) := by decide +kernel
theorem dX2_clear_33 : decode cX2_clear 33 = .ok (.putfield 16, 3) := by decide +kernel
theorem dX2_clear_36 : decode cX2_clear 36 = .ok (.aload_n 0, 1) := by decide +kernel
theorem dX2_clear_37 : decode cX2_clear 37 = .ok (.iconst 0, 1) := by decide +kernel
theorem dX2_clear_38 : decode cX2_clear 38 = .ok (.putfield 60, 3) := by decide +kernel
theorem dX2_clear_41 : decode cX2_clear 41 = .ok (.aload_n 0, 1) := by decide +kernel
theorem dX2_clear_42 : decode cX2_clear 42 = .ok (.iconst 0, 1) := by decide +kernel
theorem dX2_clear_43 : decode cX2_clear 43 = .ok (.putfield 70, 3) := by decide +kernel
theorem dX2_clear_46 : decode cX2_clear 46 = .ok (.return_, 1) := by decide +kernel
set_option maxRecDepth 20000 in
theorem ggX2_look_X2_isCell : GoodIn wsX2_look wsX2_isCell := goodIn_r _ [6, 7, 8, 5, 9] (by decide +kernel) (by decide +kernel)
set_option maxRecDepth 20000 in
theorem gX2_look_X2_isCell : GoodIn wsX2_look (va_wsS RX2 63 yX2_isCell wsX2_isCell) := goodIn_app (goodIn_of _ (by decide +kernel)) ggX2_look_X2_isCell
theorem dX2_look_0 : decode cX2_look 0 = .ok (.aload_n 0, 1) := by decide +kernel
theorem dX2_look_1 : decode cX2_look 1 = .ok (.iload_n 1, 1) := by decide +kernel
theorem dX2_look_2 : decode cX2_look 2 = .ok (.iload_n 2, 1) := by decide +kernel
theorem dX2_look_3 : decode cX2_look 3 = .ok (.invokestatic 63, 3) := by decide +kernel
theorem dX2_look_6 : decode cX2_look 6 = .ok (.ifCond .eq 7, 3) := by decide +kernel
theorem dX2_look_9 : decode cX2_look 9 = .ok (.iconst 0, 1) := by decide +kernel
theorem dX2_look_10 : decode cX2_look 10 = .ok (.goto 4, 3) := by decide +kernel
theorem dX2_look_13 : decode cX2_look 13 = .ok (.iconst 1, 1) := by decide +kernel
theorem dX2_look_14 : decode cX2_look 14 = .ok (.putfield 20, 3) := by decide +kernel
theorem dX2_look_17 : decode cX2_look 17 = .ok (.aload_n 0, 1) := by decide +kernel
theorem dX2_look_18 : decode cX2_look 18 = .ok (.getfield 20, 3) := by decide +kernel
theorem dX2_look_21 : decode cX2_look 21 = .ok (.ifCond .ne 17, 3) := by decide +kernel
theorem dX2_look_24 : decode cX2_look 24 = .ok (.aload_n 0, 1) := by decide +kernel
theorem dX2_look_25 : decode cX2_look 25 = .ok (.getfield 7, 3) := by decide +kernel
theorem dX2_look_28 : decode cX2_look 28 = .ok (.bipush 12, 2) := by decide +kernel
theorem dX2_look_30 : decode cX2_look 30 = .ok (.iload_n 1, 1) := by decide +kernel
theorem dX2_look_31 : decode cX2_look 31 = .ok (.imul, 1) := by decide +kernel
theorem dX2_look_32 : decode cX2_look 32 = .ok (.iload_n 2, 1) := by decide +kernel
theorem dX2_look_33 : decode cX2_look 33 = .ok (.iadd, 1) := by decide +kernel
theorem dX2_look_34 : decode cX2_look 34 = .ok (.iaload, 1) := by decide +kernel
theorem dX2_look_35 : decode cX2_look 35 = .ok (.goto 4, 3) := by decide +kernel
theorem dX2_look_38 : decode cX2_look 38 = .ok (.iconst 0, 1) := by decide +kernel
theorem dX2_look_39 : decode cX2_look 39 = .ok (.istore_n 3, 1) := by decide +kernel
theorem dX2_look_40 : decode cX2_look 40 = .ok (.iload_n 3, 1) := by decide +kernel
theorem dX2_look_41 : decode cX2_look 41 = .ok (.iconst 1, 1) := by decide +kernel
theorem dX2_look_42 : decode cX2_look 42 = .ok (.if_icmp .ne 8, 3) := by decide +kernel
theorem dX2_look_45 : decode cX2_look 45 = .ok (.bipush 35, 2) := by decide +kernel
theorem dX2_look_47 : decode cX2_look 47 = .ok (.goto 15, 3) := by decide +kernel
theorem dX2_look_50 : decode cX2_look 50 = .ok (.iload_n 3, 1) := by decide +kernel
theorem dX2_look_51 : decode cX2_look 51 = .ok (.iconst 2, 1) := by decide +kernel
theorem dX2_look_52 : decode cX2_look 52 = .ok (.if_icmp .ne 8, 3) := by decide +kernel
theorem dX2_look_55 : decode cX2_look 55 = .ok (.bipush 120, 2) := by decide +kernel
theorem dX2_look_57 : decode cX2_look 57 = .ok (.goto 5, 3) := by decide +kernel
theorem dX2_look_60 : decode cX2_look 60 = .ok (.bipush 46, 2) := by decide +kernel
theorem dX2_look_62 : decode cX2_look 62 = .ok (.ireturn, 1) := by decide +kernel
set_option maxRecDepth 20000 in
theorem ggX2_shadeOf_X2_isCell : GoodIn wsX2_shadeOf wsX2_isCell := goodIn_r _ [5, 6, 7, 4, 8] (by decide +kernel) (by decide +kernel)
set_option maxRecDepth 20000 in
theorem gX2_shadeOf_X2_isCell : GoodIn wsX2_shadeOf (va_wsS RX2 63 yX2_isCell wsX2_isCell) := goodIn_app (goodIn_of _ (by decide +kernel)) ggX2_shadeOf_X2_isCell
set_option maxRecDepth 20000 in
theorem ggX2_shadeOf_X2_shade : GoodIn wsX2_shadeOf wsX2_shade := goodIn_r _ [12, 13, 14, 15, 4, 16, 17, 18, 6, 7, 8, 19, 20, 21, 22, 23, 24, 25, 26] (by decide +kernel) (by decide +kernel)
set_option maxRecDepth 20000 in
theorem gX2_shadeOf_X2_shade : GoodIn wsX2_shadeOf (wsV RX2 37 RX2 yX2_shade wsX2_shade) := goodIn_app (goodIn_of _ (by decide +kernel)) ggX2_shadeOf_X2_shade
theorem dX2_shadeOf_0 : decode cX2_shadeOf 0 = .ok (.aload_n 0, 1) := by decide +kernel
theorem dX2_shadeOf_1 : decode cX2_shadeOf 1 = .ok (.iload_n 1, 1) := by decide +kernel
theorem dX2_shadeOf_2 : decode cX2_shadeOf 2 = .ok (.iload_n 2, 1) := by decide +kernel
theorem dX2_shadeOf_3 : decode cX2_shadeOf 3 = .ok (.invokestatic 63, 3) := by decide +kernel
theorem dX2_shadeOf_6 : decode cX2_shadeOf 6 = .ok (.ifCond .eq 7, 3) := by decide +kernel
theorem dX2_shadeOf_9 : decode cX2_shadeOf 9 = .ok (.iconst 0, 1) := by decide +kernel
theorem dX2_shadeOf_10 : decode cX2_shadeOf 10 = .ok (.goto 4, 3) := by decide +kernel
theorem dX2_shadeOf_13 : decode cX2_shadeOf 13 = .ok (.iconst 1, 1) := by decide +kernel
theorem dX2_shadeOf_14 : decode cX2_shadeOf 14 = .ok (.putfield 20, 3) := by decide +kernel
theorem dX2_shadeOf_17 : decode cX2_shadeOf 17 = .ok (.aload_n 0, 1) := by decide +kernel
theorem dX2_shadeOf_18 : decode cX2_shadeOf 18 = .ok (.getfield 20, 3) := by decide +kernel
theorem dX2_shadeOf_21 : decode cX2_shadeOf 21 = .ok (.ifCond .ne 13, 3) := by decide +kernel
theorem dX2_shadeOf_24 : decode cX2_shadeOf 24 = .ok (.aload_n 0, 1) := by decide +kernel
theorem dX2_shadeOf_25 : decode cX2_shadeOf 25 = .ok (.iconst 0, 1) := by decide +kernel
theorem dX2_shadeOf_26 : decode cX2_shadeOf 26 = .ok (.iload_n 1, 1) := by decide +kernel
theorem dX2_shadeOf_27 : decode cX2_shadeOf 27 = .ok (.iload_n 2, 1) := by decide +kernel
theorem dX2_shadeOf_28 : decode cX2_shadeOf 28 = .ok (.invokevirtual 37, 3) := by decide +kernel
theorem dX2_shadeOf_31 : decode cX2_shadeOf 31 = .ok (.goto 4, 3) := by decide +kernel
theorem dX2_shadeOf_34 : decode cX2_shadeOf 34 = .ok (.iconst 0, 1) := by decide +kernel
theorem dX2_shadeOf_35 : decode cX2_shadeOf 35 = .ok (.ireturn, 1) := by decide +kernel
set_option maxRecDepth 20000 in
theorem ggX2_holdersOf_X2_isCell : GoodIn wsX2_holdersOf wsX2_isCell := goodIn_r _ [5, 6, 7, 4, 8] (by decide +kernel) (by decide +kernel)
set_option maxRecDepth 20000 in
theorem gX2_holdersOf_X2_isCell : GoodIn wsX2_holdersOf (va_wsS RX2 63 yX2_isCell wsX2_isCell) := goodIn_app (goodIn_of _ (by decide +kernel)) ggX2_holdersOf_X2_isCell
set_option maxRecDepth 20000 in
theorem ggX2_holdersOf_X2_holders : GoodIn wsX2_holdersOf wsX2_holders := goodIn_r _ [12, 13, 14, 15, 4, 16, 17, 18, 19, 20, 21, 22, 6, 7, 8, 23, 24, 25, 26, 27, 28, 29, 30] (by decide +kernel) (by decide +kernel)
set_option maxRecDepth 20000 in
theorem gX2_holdersOf_X2_holders : GoodIn wsX2_holdersOf (wsV RX2 44 RX2 yX2_holders wsX2_holders) := goodIn_app (goodIn_of _ (by decide +kernel)) ggX2_holdersOf_X2_holders
theorem dX2_holdersOf_0 : decode cX2_holdersOf 0 = .ok (.aload_n 0, 1) := by decide +kernel
theorem dX2_holdersOf_1 : decode cX2_holdersOf 1 = .ok (.iload_n 1, 1) := by decide +kernel
theorem dX2_holdersOf_2 : decode cX2_holdersOf 2 = .ok (.iload_n 2, 1) := by decide +kernel
theorem dX2_holdersOf_3 : decode cX2_holdersOf 3 = .ok (.invokestatic 63, 3) := by decide +kernel
theorem dX2_holdersOf_6 : decode cX2_holdersOf 6 = .ok (.ifCond .eq 7, 3) := by decide +kernel
theorem dX2_holdersOf_9 : decode cX2_holdersOf 9 = .ok (.iconst 0, 1) := by decide +kernel
theorem dX2_holdersOf_10 : decode cX2_holdersOf 10 = .ok (.goto 4, 3) := by decide +kernel
theorem dX2_holdersOf_13 : decode cX2_holdersOf 13 = .ok (.iconst 1, 1) := by decide +kernel
theorem dX2_holdersOf_14 : decode cX2_holdersOf 14 = .ok (.putfield 20, 3) := by decide +kernel
theorem dX2_holdersOf_17 : decode cX2_holdersOf 17 = .ok (.aload_n 0, 1) := by decide +kernel
theorem dX2_holdersOf_18 : decode cX2_holdersOf 18 = .ok (.getfield 20, 3) := by decide +kernel
theorem dX2_holdersOf_21 : decode cX2_holdersOf 21 = .ok (.ifCond .ne 13, 3) := by decide +kernel
theorem dX2_holdersOf_24 : decode cX2_holdersOf 24 = .ok (.aload_n 0, 1) := by decide +kernel
theorem dX2_holdersOf_25 : decode cX2_holdersOf 25 = .ok (.iconst 0, 1) := by decide +kernel
theorem dX2_holdersOf_26 : decode cX2_holdersOf 26 = .ok (.iload_n 1, 1) := by decide +kernel
theorem dX2_holdersOf_27 : decode cX2_holdersOf 27 = .ok (.iload_n 2, 1) := by decide +kernel
theorem dX2_holdersOf_28 : decode cX2_holdersOf 28 = .ok (.invokevirtual 44, 3) := by decide +kernel
theorem dX2_holdersOf_31 : decode cX2_holdersOf 31 = .ok (.goto 4, 3) := by decide +kernel
theorem dX2_holdersOf_34 : decode cX2_holdersOf 34 = .ok (.iconst 0, 1) := by decide +kernel
theorem dX2_holdersOf_35 : decode cX2_holdersOf 35 = .ok (.ireturn, 1) := by decide +kernel
set_option maxRecDepth 20000 in
theorem ggX2_neighboursOf_X2_isCell : GoodIn wsX2_neighboursOf wsX2_isCell := goodIn_r _ [5, 6, 7, 4, 8] (by decide +kernel) (by decide +kernel)
set_option maxRecDepth 20000 in
theorem gX2_neighboursOf_X2_isCell : GoodIn wsX2_neighboursOf (va_wsS RX2 63 yX2_isCell wsX2_isCell) := goodIn_app (goodIn_of _ (by decide +kernel)) ggX2_neighboursOf_X2_isCell
set_option maxRecDepth 20000 in
theorem ggX2_neighboursOf_X2_neighbours : GoodIn wsX2_neighboursOf wsX2_neighbours := goodIn_r _ [12, 13, 14, 15, 4, 16, 17, 18, 19, 20, 21, 22, 6, 7, 8, 23, 24, 25, 26, 27, 28, 29, 30] (by decide +kernel) (by decide +kernel)
set_option maxRecDepth 20000 in
theorem gX2_neighboursOf_X2_neighbours : GoodIn wsX2_neighboursOf (wsV RX2 47 RX2 yX2_neighbours wsX2_neighbours) := goodIn_app (goodIn_of _ (by decide +kernel)) ggX2_neighboursOf_X2_neighbours
theorem dX2_neighboursOf_0 : decode cX2_neighboursOf 0 = .ok (.aload_n 0, 1) := by decide +kernel
theorem dX2_neighboursOf_1 : decode cX2_neighboursOf 1 = .ok (.iload_n 1, 1) := by decide +kernel
theorem dX2_neighboursOf_2 : decode cX2_neighboursOf 2 = .ok (.iload_n 2, 1) := by decide +kernel
theorem dX2_neighboursOf_3 : decode cX2_neighboursOf 3 = .ok (.invokestatic 63, 3) := by decide +kernel
theorem dX2_neighboursOf_6 : decode cX2_neighboursOf 6 = .ok (.ifCond .eq 7, 3) := by decide +kernel
theorem dX2_neighboursOf_9 : decode cX2_neighboursOf 9 = .ok (.iconst 0, 1) := by decide +kernel
theorem dX2_neighboursOf_10 : decode cX2_neighboursOf 10 = .ok (.goto 4, 3) := by decide +kernel
theorem dX2_neighboursOf_13 : decode cX2_neighboursOf 13 = .ok (.iconst 1, 1) := by decide +kernel
theorem dX2_neighboursOf_14 : decode cX2_neighboursOf 14 = .ok (.putfield 20, 3) := by decide +kernel
theorem dX2_neighboursOf_17 : decode cX2_neighboursOf 17 = .ok (.aload_n 0, 1) := by decide +kernel
theorem dX2_neighboursOf_18 : decode cX2_neighboursOf 18 = .ok (.getfield 20, 3) := by decide +kernel
theorem dX2_neighboursOf_21 : decode cX2_neighboursOf 21 = .ok (.ifCond .ne 13, 3) := by decide +kernel
theorem dX2_neighboursOf_24 : decode cX2_neighboursOf 24 = .ok (.aload_n 0, 1) := by decide +kernel
theorem dX2_neighboursOf_25 : decode cX2_neighboursOf 25 = .ok (.iconst 0, 1) := by decide +kernel
theorem dX2_neighboursOf_26 : decode cX2_neighboursOf 26 = .ok (.iload_n 1, 1) := by decide +kernel
theorem dX2_neighboursOf_27 : decode cX2_neighboursOf 27 = .ok (.iload_n 2, 1) := by decide +kernel
theorem dX2_neighboursOf_28 : decode cX2_neighboursOf 28 = .ok (.invokevirtual 47, 3) := by decide +kernel
theorem dX2_neighboursOf_31 : decode cX2_neighboursOf 31 = .ok (.goto 4, 3) := by decide +kernel
theorem dX2_neighboursOf_34 : decode cX2_neighboursOf 34 = .ok (.iconst 0, 1) := by decide +kernel
theorem dX2_neighboursOf_35 : decode cX2_neighboursOf 35 = .ok (.ireturn, 1) := by decide +kernel
set_option maxRecDepth 20000 in
theorem ggX2_leavesIn_X2_isColumn : GoodIn wsX2_leavesIn wsX2_isColumn := goodIn_r _ [5] (by decide +kernel) (by decide +kernel)
set_option maxRecDepth 20000 in
theorem gX2_leavesIn_X2_isColumn : GoodIn wsX2_leavesIn (va_wsS RX2 23 yX2_isColumn wsX2_isColumn) := goodIn_app (goodIn_of _ (by decide +kernel)) ggX2_leavesIn_X2_isColumn
set_option maxRecDepth 20000 in
theorem ggX2_leavesIn_X2_inColumn : GoodIn wsX2_leavesIn wsX2_inColumn := goodIn_r _ [9, 10, 11, 12, 4, 13, 14, 15, 2, 3, 5, 16, 17, 18, 19, 20, 21, 22, 23, 24, 25, 26, 27] (by decide +kernel) (by decide +kernel)
set_option maxRecDepth 20000 in
theorem gX2_leavesIn_X2_inColumn : GoodIn wsX2_leavesIn (wsV RX2 40 RX2 yX2_inColumn wsX2_inColumn) := goodIn_app (goodIn_of _ (by decide +kernel)) ggX2_leavesIn_X2_inColumn
theorem dX2_leavesIn_0 : decode cX2_leavesIn 0 = .ok (.aload_n 0, 1) := by decide +kernel
theorem dX2_leavesIn_1 : decode cX2_leavesIn 1 = .ok (.iload_n 1, 1) := by decide +kernel
theorem dX2_leavesIn_2 : decode cX2_leavesIn 2 = .ok (.invokestatic 23, 3) := by decide +kernel
theorem dX2_leavesIn_5 : decode cX2_leavesIn 5 = .ok (.ifCond .eq 7, 3) := by decide +kernel
theorem dX2_leavesIn_8 : decode cX2_leavesIn 8 = .ok (.iconst 0, 1) := by decide +kernel
theorem dX2_leavesIn_9 : decode cX2_leavesIn 9 = .ok (.goto 4, 3) := by decide +kernel
theorem dX2_leavesIn_12 : decode cX2_leavesIn 12 = .ok (.iconst 1, 1) := by decide +kernel
theorem dX2_leavesIn_13 : decode cX2_leavesIn 13 = .ok (.putfield 20, 3) := by decide +kernel
theorem dX2_leavesIn_16 : decode cX2_leavesIn 16 = .ok (.aload_n 0, 1) := by decide +kernel
theorem dX2_leavesIn_17 : decode cX2_leavesIn 17 = .ok (.getfield 20, 3) := by decide +kernel
theorem dX2_leavesIn_20 : decode cX2_leavesIn 20 = .ok (.ifCond .ne 12, 3) := by decide +kernel
theorem dX2_leavesIn_23 : decode cX2_leavesIn 23 = .ok (.aload_n 0, 1) := by decide +kernel
theorem dX2_leavesIn_24 : decode cX2_leavesIn 24 = .ok (.iconst 0, 1) := by decide +kernel
theorem dX2_leavesIn_25 : decode cX2_leavesIn 25 = .ok (.iload_n 1, 1) := by decide +kernel
theorem dX2_leavesIn_26 : decode cX2_leavesIn 26 = .ok (.invokevirtual 40, 3) := by decide +kernel
theorem dX2_leavesIn_29 : decode cX2_leavesIn 29 = .ok (.goto 4, 3) := by decide +kernel
theorem dX2_leavesIn_32 : decode cX2_leavesIn 32 = .ok (.iconst 0, 1) := by decide +kernel
theorem dX2_leavesIn_33 : decode cX2_leavesIn 33 = .ok (.ireturn, 1) := by decide +kernel
set_option maxRecDepth 20000 in
theorem ggX2_leaves_X2_allLeaves : GoodIn wsX2_leaves wsX2_allLeaves := goodIn_r _ [6, 7, 8, 9, 5, 10, 11, 12, 13, 14, 15, 16, 17, 18, 19, 20, 21, 22, 23, 24, 25, 26, 27, 28, 29, 30, 31] (by decide +kernel) (by decide +kernel)
set_option maxRecDepth 20000 in
theorem gX2_leaves_X2_allLeaves : GoodIn wsX2_leaves (wsV RX2 67 RX2 yX2_allLeaves wsX2_allLeaves) := goodIn_app (goodIn_of _ (by decide +kernel)) ggX2_leaves_X2_allLeaves
theorem dX2_leaves_0 : decode cX2_leaves 0 = .ok (.aload_n 0, 1) := by decide +kernel
theorem dX2_leaves_1 : decode cX2_leaves 1 = .ok (.iconst 0, 1) := by decide +kernel
theorem dX2_leaves_2 : decode cX2_leaves 2 = .ok (.putfield 20, 3) := by decide +kernel
theorem dX2_leaves_5 : decode cX2_leaves 5 = .ok (.aload_n 0, 1) := by decide +kernel
theorem dX2_leaves_6 : decode cX2_leaves 6 = .ok (.iconst 0, 1) := by decide +kernel
theorem dX2_leaves_7 : decode cX2_leaves 7 = .ok (.invokevirtual 67, 3) := by decide +kernel
theorem dX2_leaves_10 : decode cX2_leaves 10 = .ok (.ireturn, 1) := by decide +kernel
set_option maxRecDepth 20000 in
theorem ggX2_lit_X2_allLit : GoodIn wsX2_lit wsX2_allLit := goodIn_r _ [6, 7, 8, 9, 5, 10, 11, 12, 13, 14, 15, 16, 17, 18, 19, 20, 21, 22, 23, 24, 25, 26, 27, 28, 29, 30, 31] (by decide +kernel) (by decide +kernel)
set_option maxRecDepth 20000 in
theorem gX2_lit_X2_allLit : GoodIn wsX2_lit (wsV RX2 80 RX2 yX2_allLit wsX2_allLit) := goodIn_app (goodIn_of _ (by decide +kernel)) ggX2_lit_X2_allLit
theorem dX2_lit_0 : decode cX2_lit 0 = .ok (.aload_n 0, 1) := by decide +kernel
theorem dX2_lit_1 : decode cX2_lit 1 = .ok (.iconst 0, 1) := by decide +kernel
theorem dX2_lit_2 : decode cX2_lit 2 = .ok (.putfield 20, 3) := by decide +kernel
theorem dX2_lit_5 : decode cX2_lit 5 = .ok (.aload_n 0, 1) := by decide +kernel
theorem dX2_lit_6 : decode cX2_lit 6 = .ok (.iconst 0, 1) := by decide +kernel
theorem dX2_lit_7 : decode cX2_lit 7 = .ok (.invokevirtual 80, 3) := by decide +kernel
theorem dX2_lit_10 : decode cX2_lit 10 = .ok (.ireturn, 1) := by decide +kernel
theorem dX2_generation_0 : decode cX2_generation 0 = .ok (.aload_n 0, 1) := by decide +kernel
theorem dX2_generation_1 : decode cX2_generation 1 = .ok (.iconst 0, 1) := by decide +kernel
theorem dX2_generation_2 : decode cX2_generation 2 = .ok (.putfield 20, 3) := by decide +kernel
theorem dX2_generation_5 : decode cX2_generation 5 = .ok (.aload_n 0, 1) := by decide +kernel
theorem dX2_generation_6 : decode cX2_generation 6 = .ok (.getfield 57, 3) := by decide +kernel
theorem dX2_generation_9 : decode cX2_generation 9 = .ok (.ireturn, 1) := by decide +kernel
theorem dX2_cutsLeft_0 : decode cX2_cutsLeft 0 = .ok (.aload_n 0, 1) := by decide +kernel
theorem dX2_cutsLeft_1 : decode cX2_cutsLeft 1 = .ok (.iconst 0, 1) := by decide +kernel
theorem dX2_cutsLeft_2 : decode cX2_cutsLeft 2 = .ok (.putfield 20, 3) := by decide +kernel
theorem dX2_cutsLeft_5 : decode cX2_cutsLeft 5 = .ok (.aload_n 0, 1) := by decide +kernel
theorem dX2_cutsLeft_6 : decode cX2_cutsLeft 6 = .ok (.getfield 16, 3) := by decide +kernel
theorem dX2_cutsLeft_9 : decode cX2_cutsLeft 9 = .ok (.ireturn, 1) := by decide +kernel
theorem dX2_broken_0 : decode cX2_broken 0 = .ok (.aload_n 0, 1) := by decide +kernel
theorem dX2_broken_1 : decode cX2_broken 1 = .ok (.iconst 0, 1) := by decide +kernel
theorem dX2_broken_2 : decode cX2_broken 2 = .ok (.putfield 20, 3) := by decide +kernel
theorem dX2_broken_5 : decode cX2_broken 5 = .ok (.aload_n 0, 1) := by decide +kernel
theorem dX2_broken_6 : decode cX2_broken 6 = .ok (.getfield 70, 3) := by decide +kernel
theorem dX2_broken_9 : decode cX2_broken 9 = .ok (.ireturn, 1) := by decide +kernel
set_option maxRecDepth 20000 in
theorem ggX2_leavesNext_X2_grows : GoodIn wsX2_leavesNext wsX2_grows := goodIn_r _ [6, 7, 8, 9, 10, 5, 11, 12, 13, 14, 15, 16, 17, 18, 19, 20, 21, 22, 23, 24, 25, 26, 27, 28, 29, 30, 31, 32, 33, 34, 35, 36, 37, 38, 39, 40, 41, 42, 43, 44, 49, 50, 51, 52, 53, 54, 55, 56] (by decide +kernel) (by decide +kernel)
set_option maxRecDepth 20000 in
theorem gX2_leavesNext_X2_grows : GoodIn wsX2_leavesNext (wsV RX2 73 RX2 yX2_grows wsX2_grows) := goodIn_app (goodIn_of _ (by decide +kernel)) ggX2_leavesNext_X2_grows
set_option maxRecDepth 20000 in
theorem ggX2_leavesNext_X2_allLeaves : GoodIn wsX2_leavesNext wsX2_allLeaves := goodIn_r _ [48, 41, 42, 43, 5, 44, 20, 21, 22, 23, 24, 7, 25, 26, 27, 32, 33, 34, 35, 49, 50, 51, 52, 53, 54, 55, 56] (by decide +kernel) (by decide +kernel)
set_option maxRecDepth 20000 in
theorem gX2_leavesNext_X2_allLeaves : GoodIn wsX2_leavesNext (wsV RX2 67 RX2 yX2_allLeaves wsX2_allLeaves) := goodIn_app (goodIn_of _ (by decide +kernel)) ggX2_leavesNext_X2_allLeaves
theorem dX2_leavesNext_0 : decode cX2_leavesNext 0 = .ok (.aload_n 0, 1) := by decide +kernel
theorem dX2_leavesNext_1 : decode cX2_leavesNext 1 = .ok (.iconst 0, 1) := by decide +kernel
theorem dX2_leavesNext_2 : decode cX2_leavesNext 2 = .ok (.putfield 20, 3) := by decide +kernel
theorem dX2_leavesNext_5 : decode cX2_leavesNext 5 = .ok (.aload_n 0, 1) := by decide +kernel
theorem dX2_leavesNext_6 : decode cX2_leavesNext 6 = .ok (.iconst 0, 1) := by decide +kernel
theorem dX2_leavesNext_7 : decode cX2_leavesNext 7 = .ok (.iconst 1, 1) := by decide +kernel
theorem dX2_leavesNext_8 : decode cX2_leavesNext 8 = .ok (.invokevirtual 73, 3) := by decide +kernel
theorem dX2_leavesNext_11 : decode cX2_leavesNext 11 = .ok (.istore_n 1, 1) := by decide +kernel
theorem dX2_leavesNext_12 : decode cX2_leavesNext 12 = .ok (.aload_n 0, 1) := by decide +kernel
theorem dX2_leavesNext_13 : decode cX2_leavesNext 13 = .ok (.iconst 1, 1) := by decide +kernel
theorem dX2_leavesNext_14 : decode cX2_leavesNext 14 = .ok (.invokevirtual 67, 3) := by decide +kernel
theorem dX2_leavesNext_17 : decode cX2_leavesNext 17 = .ok (.ireturn, 1) := by decide +kernel
theorem dX2_areAlike_0 : decode cX2_areAlike 0 = .ok (.iconst 0, 1) := by decide +kernel
theorem dX2_areAlike_1 : decode cX2_areAlike 1 = .ok (.istore_n 3, 1) := by decide +kernel
theorem dX2_areAlike_2 : decode cX2_areAlike 2 = .ok (.iload_n 3, 1) := by decide +kernel
theorem dX2_areAlike_3 : decode cX2_areAlike 3 = .ok (.bipush 96, 2) := by decide +kernel
theorem dX2_areAlike_5 : decode cX2_areAlike 5 = .ok (.if_icmp .ge 36, 3) := by decide +kernel
theorem dX2_areAlike_8 : decode cX2_areAlike 8 = .ok (.aload_n 0, 1) := by decide +kernel
theorem dX2_areAlike_9 : decode cX2_areAlike 9 = .ok (.getfield 7, 3) := by decide +kernel
theorem dX2_areAlike_12 : decode cX2_areAlike 12 = .ok (.bipush 96, 2) := by decide +kernel
theorem dX2_areAlike_14 : decode cX2_areAlike 14 = .ok (.iload_n 1, 1) := by decide +kernel
theorem dX2_areAlike_15 : decode cX2_areAlike 15 = .ok (.imul, 1) := by decide +kernel
theorem dX2_areAlike_16 : decode cX2_areAlike 16 = .ok (.iload_n 3, 1) := by decide +kernel
theorem dX2_areAlike_17 : decode cX2_areAlike 17 = .ok (.iadd, 1) := by decide +kernel
theorem dX2_areAlike_18 : decode cX2_areAlike 18 = .ok (.iaload, 1) := by decide +kernel
theorem dX2_areAlike_19 : decode cX2_areAlike 19 = .ok (.aload_n 0, 1) := by decide +kernel
theorem dX2_areAlike_20 : decode cX2_areAlike 20 = .ok (.getfield 7, 3) := by decide +kernel
theorem dX2_areAlike_23 : decode cX2_areAlike 23 = .ok (.bipush 96, 2) := by decide +kernel
theorem dX2_areAlike_25 : decode cX2_areAlike 25 = .ok (.iload_n 2, 1) := by decide +kernel
theorem dX2_areAlike_26 : decode cX2_areAlike 26 = .ok (.imul, 1) := by decide +kernel
theorem dX2_areAlike_27 : decode cX2_areAlike 27 = .ok (.iload_n 3, 1) := by decide +kernel
theorem dX2_areAlike_28 : decode cX2_areAlike 28 = .ok (.iadd, 1) := by decide +kernel
theorem dX2_areAlike_29 : decode cX2_areAlike 29 = .ok (.iaload, 1) := by decide +kernel
theorem dX2_areAlike_30 : decode cX2_areAlike 30 = .ok (.if_icmp .eq 5, 3) := by decide +kernel
theorem dX2_areAlike_33 : decode cX2_areAlike 33 = .ok (.iconst 0, 1) := by decide +kernel
theorem dX2_areAlike_34 : decode cX2_areAlike 34 = .ok (.ireturn, 1) := by decide +kernel
theorem dX2_areAlike_35 : decode cX2_areAlike 35 = .ok (.iinc 3 1, 3) := by decide +kernel
theorem dX2_areAlike_38 : decode cX2_areAlike 38 = .ok (.goto (-36), 3) := by decide +kernel
theorem dX2_areAlike_41 : decode cX2_areAlike 41 = .ok (.iconst 1, 1) := by decide +kernel
theorem dX2_areAlike_42 : decode cX2_areAlike 42 = .ok (.ireturn, 1) := by decide +kernel
set_option maxRecDepth 20000 in
theorem ggX2_repeatsIn_X2_grows : GoodIn wsX2_repeatsIn wsX2_grows := goodIn_r _ [6, 7, 8, 9, 10, 5, 11, 12, 13, 14, 15, 16, 17, 18, 19, 20, 21, 22, 23, 24, 25, 26, 27, 28, 29, 30, 31, 32, 33, 34, 35, 36, 37, 38, 39, 40, 41, 42, 43, 44, 49, 50, 51, 52, 53, 54, 55, 56] (by decide +kernel) (by decide +kernel)
set_option maxRecDepth 20000 in
theorem gX2_repeatsIn_X2_grows : GoodIn wsX2_repeatsIn (wsV RX2 73 RX2 yX2_grows wsX2_grows) := goodIn_app (goodIn_of _ (by decide +kernel)) ggX2_repeatsIn_X2_grows
set_option maxRecDepth 20000 in
theorem ggX2_repeatsIn_X2_areAlike : GoodIn wsX2_repeatsIn wsX2_areAlike := goodIn_r _ [48, 7, 49, 50, 51, 52, 53, 54, 55, 56] (by decide +kernel) (by decide +kernel)
set_option maxRecDepth 20000 in
theorem gX2_repeatsIn_X2_areAlike : GoodIn wsX2_repeatsIn (wsV RX2 83 RX2 yX2_areAlike wsX2_areAlike) := goodIn_app (goodIn_of _ (by decide +kernel)) ggX2_repeatsIn_X2_areAlike
theorem dX2_repeatsIn_0 : decode cX2_repeatsIn 0 = .ok (.aload_n 0, 1) := by decide +kernel
theorem dX2_repeatsIn_1 : decode cX2_repeatsIn 1 = .ok (.iconst 0, 1) := by decide +kernel
theorem dX2_repeatsIn_2 : decode cX2_repeatsIn 2 = .ok (.putfield 20, 3) := by decide +kernel
theorem dX2_repeatsIn_5 : decode cX2_repeatsIn 5 = .ok (.iconst 1, 1) := by decide +kernel
theorem dX2_repeatsIn_6 : decode cX2_repeatsIn 6 = .ok (.istore_n 1, 1) := by decide +kernel
theorem dX2_repeatsIn_7 : decode cX2_repeatsIn 7 = .ok (.iload_n 1, 1) := by decide +kernel
theorem dX2_repeatsIn_8 : decode cX2_repeatsIn 8 = .ok (.bipush 60, 2) := by decide +kernel
theorem dX2_repeatsIn_10 : decode cX2_repeatsIn 10 = .ok (.if_icmp .gt 42, 3) := by decide +kernel
theorem dX2_repeatsIn_13 : decode cX2_repeatsIn 13 = .ok (.aload_n 0, 1) := by decide +kernel
theorem dX2_repeatsIn_14 : decode cX2_repeatsIn 14 = .ok (.iload_n 1, 1) := by decide +kernel
theorem dX2_repeatsIn_15 : decode cX2_repeatsIn 15 = .ok (.iconst 1, 1) := by decide +kernel
theorem dX2_repeatsIn_16 : decode cX2_repeatsIn 16 = .ok (.isub, 1) := by decide +kernel
theorem dX2_repeatsIn_17 : decode cX2_repeatsIn 17 = .ok (.iload_n 1, 1) := by decide +kernel
theorem dX2_repeatsIn_18 : decode cX2_repeatsIn 18 = .ok (.invokevirtual 73, 3) := by decide +kernel
theorem dX2_repeatsIn_21 : decode cX2_repeatsIn 21 = .ok (.istore_n 2, 1) := by decide +kernel
theorem dX2_repeatsIn_22 : decode cX2_repeatsIn 22 = .ok (.iconst 0, 1) := by decide +kernel
theorem dX2_repeatsIn_23 : decode cX2_repeatsIn 23 = .ok (.istore_n 3, 1) := by decide +kernel
theorem dX2_repeatsIn_24 : decode cX2_repeatsIn 24 = .ok (.iload_n 3, 1) := by decide +kernel
theorem dX2_repeatsIn_25 : decode cX2_repeatsIn 25 = .ok (.iload_n 1, 1) := by decide +kernel
theorem dX2_repeatsIn_26 : decode cX2_repeatsIn 26 = .ok (.if_icmp .ge 20, 3) := by decide +kernel
theorem dX2_repeatsIn_29 : decode cX2_repeatsIn 29 = .ok (.aload_n 0, 1) := by decide +kernel
theorem dX2_repeatsIn_30 : decode cX2_repeatsIn 30 = .ok (.iload_n 3, 1) := by decide +kernel
theorem dX2_repeatsIn_31 : decode cX2_repeatsIn 31 = .ok (.iload_n 1, 1) := by decide +kernel
theorem dX2_repeatsIn_32 : decode cX2_repeatsIn 32 = .ok (.invokevirtual 83, 3) := by decide +kernel
theorem dX2_repeatsIn_35 : decode cX2_repeatsIn 35 = .ok (.ifCond .eq 5, 3) := by decide +kernel
theorem dX2_repeatsIn_38 : decode cX2_repeatsIn 38 = .ok (.iload_n 1, 1) := by decide +kernel
theorem dX2_repeatsIn_39 : decode cX2_repeatsIn 39 = .ok (.ireturn, 1) := by decide +kernel
theorem dX2_repeatsIn_40 : decode cX2_repeatsIn 40 = .ok (.iinc 3 1, 3) := by decide +kernel
theorem dX2_repeatsIn_43 : decode cX2_repeatsIn 43 = .ok (.goto (-19), 3) := by decide +kernel
theorem dX2_repeatsIn_46 : decode cX2_repeatsIn 46 = .ok (.iinc 1 1, 3) := by decide +kernel
theorem dX2_repeatsIn_49 : decode cX2_repeatsIn 49 = .ok (.goto (-42), 3) := by decide +kernel
theorem dX2_repeatsIn_52 : decode cX2_repeatsIn 52 = .ok (.iconst (-1), 1) := by decide +kernel
theorem dX2_repeatsIn_53 : decode cX2_repeatsIn 53 = .ok (.ireturn, 1) := by decide +kernel
set_option maxRecDepth 20000 in
theorem ggX2_bestCut_X2_copies : GoodIn wsX2_bestCut wsX2_copies := goodIn_r _ [7, 2, 53, 54, 55, 56, 57, 58, 59, 60] (by decide +kernel) (by decide +kernel)
set_option maxRecDepth 20000 in
theorem gX2_bestCut_X2_copies : GoodIn wsX2_bestCut (wsV RX2 76 RX2 yX2_copies wsX2_copies) := goodIn_app (goodIn_of _ (by decide +kernel)) ggX2_bestCut_X2_copies
set_option maxRecDepth 20000 in
theorem ggX2_bestCut_X2_grows : GoodIn wsX2_bestCut wsX2_grows := goodIn_r _ [11, 2, 12, 13, 14, 6, 15, 16, 17, 18, 19, 20, 21, 22, 23, 24, 25, 26, 27, 28, 29, 30, 31, 32, 33, 34, 35, 36, 37, 38, 39, 40, 41, 42, 43, 44, 45, 46, 47, 48, 53, 54, 55, 56, 57, 58, 59, 60] (by decide +kernel) (by decide +kernel)
set_option maxRecDepth 20000 in
theorem gX2_bestCut_X2_grows : GoodIn wsX2_bestCut (wsV RX2 73 RX2 yX2_grows wsX2_grows) := goodIn_app (goodIn_of _ (by decide +kernel)) ggX2_bestCut_X2_grows
set_option maxRecDepth 20000 in
theorem ggX2_bestCut_X2_allLit : GoodIn wsX2_bestCut wsX2_allLit := goodIn_r _ [52, 45, 46, 47, 6, 48, 24, 25, 26, 27, 28, 2, 29, 30, 31, 36, 37, 38, 39, 53, 54, 55, 56, 57, 58, 59, 60] (by decide +kernel) (by decide +kernel)
set_option maxRecDepth 20000 in
theorem gX2_bestCut_X2_allLit : GoodIn wsX2_bestCut (wsV RX2 80 RX2 yX2_allLit wsX2_allLit) := goodIn_app (goodIn_of _ (by decide +kernel)) ggX2_bestCut_X2_allLit
theorem dX2_bestCut_0 : decode cX2_bestCut 0 = .ok (.aload_n 0, 1) := by decide +kernel
theorem dX2_bestCut_1 : decode cX2_bestCut 1 = .ok (.iconst 0, 1) := by decide +kernel
theorem dX2_bestCut_2 : decode cX2_bestCut 2 = .ok (.putfield 20, 3) := by decide +kernel
theorem dX2_bestCut_5 : decode cX2_bestCut 5 = .ok (.iconst (-1), 1) := by decide +kernel
theorem dX2_bestCut_6 : decode cX2_bestCut 6 = .ok (.istore_n 1, 1) := by decide +kernel
theorem dX2_bestCut_7 : decode cX2_bestCut 7 = .ok (.iconst (-1), 1) := by decide +kernel
theorem dX2_bestCut_8 : decode cX2_bestCut 8 = .ok (.istore_n 2, 1) := by decide +kernel
theorem dX2_bestCut_9 : decode cX2_bestCut 9 = .ok (.iconst 0, 1) := by decide +kernel
theorem dX2_bestCut_10 : decode cX2_bestCut 10 = .ok (.istore_n 3, 1) := by decide +kernel
theorem dX2_bestCut_11 : decode cX2_bestCut 11 = .ok (.iload_n 3, 1) := by decide +kernel
theorem dX2_bestCut_12 : decode cX2_bestCut 12 = .ok (.bipush 96, 2) := by decide +kernel
theorem dX2_bestCut_14 : decode cX2_bestCut 14 = .ok (.if_icmp .ge 78, 3) := by decide +kernel
theorem dX2_bestCut_17 : decode cX2_bestCut 17 = .ok (.aload_n 0, 1) := by decide +kernel
theorem dX2_bestCut_18 : decode cX2_bestCut 18 = .ok (.getfield 7, 3) := by decide +kernel
theorem dX2_bestCut_21 : decode cX2_bestCut 21 = .ok (.iload_n 3, 1) := by decide +kernel
theorem dX2_bestCut_22 : decode cX2_bestCut 22 = .ok (.iaload, 1) := by decide +kernel
theorem dX2_bestCut_23 : decode cX2_bestCut 23 = .ok (.iconst 1, 1) := by decide +kernel
theorem dX2_bestCut_24 : decode cX2_bestCut 24 = .ok (.if_icmp .ne 62, 3) := by decide +kernel

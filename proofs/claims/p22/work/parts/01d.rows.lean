theorem dX1_trellis_21 : decode cX1_trellis 21 = .ok (.invokespecial 53, 3) := by decide +kernel
theorem dX1_trellis_24 : decode cX1_trellis 24 = .ok (.athrow, 1) := by decide +kernel
theorem dX1_trellis_25 : decode cX1_trellis 25 = .ok (.aload_n 0, 1) := by decide +kernel
theorem dX1_trellis_26 : decode cX1_trellis 26 = .ok (.getfield 29, 3) := by decide +kernel
theorem dX1_trellis_29 : decode cX1_trellis 29 = .ok (.iload_n 1, 1) := by decide +kernel
theorem dX1_trellis_30 : decode cX1_trellis 30 = .ok (.iaload, 1) := by decide +kernel
theorem dX1_trellis_31 : decode cX1_trellis 31 = .ok (.istore_n 3, 1) := by decide +kernel
theorem dX1_trellis_32 : decode cX1_trellis 32 = .ok (.aload_n 0, 1) := by decide +kernel
theorem dX1_trellis_33 : decode cX1_trellis 33 = .ok (.getfield 29, 3) := by decide +kernel
theorem dX1_trellis_36 : decode cX1_trellis 36 = .ok (.iload_n 1, 1) := by decide +kernel
theorem dX1_trellis_37 : decode cX1_trellis 37 = .ok (.iload_n 2, 1) := by decide +kernel
theorem dX1_trellis_38 : decode cX1_trellis 38 = .ok (.iastore, 1) := by decide +kernel
theorem dX1_trellis_39 : decode cX1_trellis 39 = .ok (.iload_n 3, 1) := by decide +kernel
theorem dX1_trellis_40 : decode cX1_trellis 40 = .ok (.ireturn, 1) := by decide +kernel
set_option maxRecDepth 20000 in
theorem ggX1_cut_X1_requireCell : GoodIn wsX1_cut wsX1_requireCell := goodIn_ca (goodIn_r _ [8, 9, 10, 11, 12, 7, 13] (by decide +kernel) (by decide +kernel)) (goodIn_sub (fun _ h => List.mem_cons_of_mem _ (List.mem_append_right _ h)) (by decide +kernel))
set_option maxRecDepth 20000 in
theorem gX1_cut_X1_requireCell : GoodIn wsX1_cut (va_wsS RX1 79 yX1_requireCell wsX1_requireCell) := goodIn_app (goodIn_of _ (by decide +kernel)) ggX1_cut_X1_requireCell
set_option maxRecDepth 20000 in
theorem ggX1_cut_X0_hasLeafAt : GoodIn wsX1_cut wsX0_hasLeafAt := goodIn_r _ [18, 19, 20, 21, 17, 22, 23, 48, 49] (by decide +kernel) (by decide +kernel)
set_option maxRecDepth 20000 in
theorem gX1_cut_X0_hasLeafAt : GoodIn wsX1_cut (wsV RX1 82 RX0 yX0_hasLeafAt wsX0_hasLeafAt) := goodIn_app (goodIn_of _ (by decide +kernel)) ggX1_cut_X0_hasLeafAt
set_option maxRecDepth 20000 in
theorem ggX1_cut_X1_cutsLeft : GoodIn wsX1_cut wsX1_cutsLeft := goodIn_r _ [27, 4, 37, 38, 39, 40, 41, 42, 43, 44, 45, 46, 47] (by decide +kernel) (by decide +kernel)
set_option maxRecDepth 20000 in
theorem gX1_cut_X1_cutsLeft : GoodIn wsX1_cut (wsV RX1 87 RX1 yX1_cutsLeft wsX1_cutsLeft) := goodIn_app (goodIn_of _ (by decide +kernel)) ggX1_cut_X1_cutsLeft
set_option maxRecDepth 20000 in
theorem ggX1_cut_X0_cutLeaf : GoodIn wsX1_cut wsX0_cutLeaf := goodIn_r _ [31, 32, 33, 34, 35, 17, 36, 23, 12, 7, 13, 48, 49] (by decide +kernel) (by decide +kernel)
set_option maxRecDepth 20000 in
theorem gX1_cut_X0_cutLeaf : GoodIn wsX1_cut (wsV RX1 93 RX0 yX0_cutLeaf wsX0_cutLeaf) := goodIn_app (goodIn_of _ (by decide +kernel)) ggX1_cut_X0_cutLeaf
theorem dX1_cut_0 : decode cX1_cut 0 = .ok (.iload_n 1, 1) := by decide +kernel
theorem dX1_cut_1 : decode cX1_cut 1 = .ok (.iload_n 2, 1) := by decide +kernel
theorem dX1_cut_2 : decode cX1_cut 2 = .ok (.invokestatic 79, 3) := by decide +kernel
theorem dX1_cut_5 : decode cX1_cut 5 = .ok (.aload_n 0, 1) := by decide +kernel
theorem dX1_cut_6 : decode cX1_cut 6 = .ok (.getfield 10, 3) := by decide +kernel
theorem dX1_cut_9 : decode cX1_cut 9 = .ok (.iload_n 1, 1) := by decide +kernel
theorem dX1_cut_10 : decode cX1_cut 10 = .ok (.iload_n 2, 1) := by decide +kernel
theorem dX1_cut_11 : decode cX1_cut 11 = .ok (.invokevirtual 82, 3) := by decide +kernel
theorem dX1_cut_14 : decode cX1_cut 14 = .ok (.ifCond .ne 13, 3) := by decide +kernel
theorem dX1_cut_17 : decode cX1_cut 17 = .ok (.new 56, 3) := by decide +kernel
theorem dX1_cut_20 : decode cX1_cut 20 = .ok (.dup, 1) := by decide +kernel
theorem dX1_cut_21 : decode cX1_cut 21 = .ok (.ldc 85, 2) := by decide +kernel
theorem dX1_cut_23 : decode cX1_cut 23 = .ok (.invokespecial 60, 3) := by decide +kernel
theorem dX1_cut_26 : decode cX1_cut 26 = .ok (.athrow, 1) := by decide +kernel
theorem dX1_cut_27 : decode cX1_cut 27 = .ok (.aload_n 0, 1) := by decide +kernel
theorem dX1_cut_28 : decode cX1_cut 28 = .ok (.invokevirtual 87, 3) := by decide +kernel
theorem dX1_cut_31 : decode cX1_cut 31 = .ok (.ifCond .ne 13, 3) := by decide +kernel
theorem dX1_cut_34 : decode cX1_cut 34 = .ok (.new 56, 3) := by decide +kernel
theorem dX1_cut_37 : decode cX1_cut 37 = .ok (.dup, 1) := by decide +kernel
theorem dX1_cut_38 : decode cX1_cut 38 = .ok (.ldc 91, 2) := by decide +kernel
theorem dX1_cut_40 : decode cX1_cut 40 = .ok (.invokespecial 60, 3) := by decide +kernel
theorem dX1_cut_43 : decode cX1_cut 43 = .ok (.athrow, 1) := by decide +kernel
theorem dX1_cut_44 : decode cX1_cut 44 = .ok (.aload_n 0, 1) := by decide +kernel
theorem dX1_cut_45 : decode cX1_cut 45 = .ok (.getfield 10, 3) := by decide +kernel
theorem dX1_cut_48 : decode cX1_cut 48 = .ok (.iload_n 1, 1) := by decide +kernel
theorem dX1_cut_49 : decode cX1_cut 49 = .ok (.iload_n 2, 1) := by decide +kernel
theorem dX1_cut_50 : decode cX1_cut 50 = .ok (.invokevirtual 93, 3) := by decide +kernel
theorem dX1_cut_53 : decode cX1_cut 53 = .ok (.aload_n 0, 1) := by decide +kernel
theorem dX1_cut_54 : decode cX1_cut 54 = .ok (.dup, 1) := by decide +kernel
theorem dX1_cut_55 : decode cX1_cut 55 = .ok (.getfield 40, 3) := by decide +kernel
theorem dX1_cut_58 : decode cX1_cut 58 = .ok (.iconst 1, 1) := by decide +kernel
theorem dX1_cut_59 : decode cX1_cut 59 = .ok (.iadd, 1) := by decide +kernel
theorem dX1_cut_60 : decode cX1_cut 60 = .ok (.putfield 40, 3) := by decide +kernel
theorem dX1_cut_63 : decode cX1_cut 63 = .ok (.aload_n 0, 1) := by decide +kernel
theorem dX1_cut_64 : decode cX1_cut 64 = .ok (.invokevirtual 87, 3) := by decide +kernel
theorem dX1_cut_67 : decode cX1_cut 67 = .ok (.ireturn, 1) := by decide +kernel
set_option maxRecDepth 20000 in
theorem ggX1_grow_X1_leaves : GoodIn wsX1_grow wsX1_leaves := goodIn_r _ [14, 6, 15, 16, 17, 18, 19, 20, 21, 22, 23, 24, 25, 26, 27, 85, 86, 87, 88, 89, 90, 91, 92, 93, 94, 95, 96, 97] (by decide +kernel) (by decide +kernel)
set_option maxRecDepth 20000 in
theorem gX1_grow_X1_leaves : GoodIn wsX1_grow (wsV RX1 98 RX1 yX1_leaves wsX1_leaves) := goodIn_app (goodIn_of _ (by decide +kernel)) ggX1_grow_X1_leaves
set_option maxRecDepth 20000 in
theorem ggX1_grow_X0_becomeNextOf : GoodIn wsX1_grow wsX0_becomeNextOf := goodIn_r _ [31, 20, 32, 33, 34, 35, 18, 36, 37, 38, 39, 40, 41, 42, 43, 44, 45, 46, 47, 21, 22, 23, 24, 25, 26, 27, 48, 49, 50, 51, 52, 53, 54, 55, 56, 57, 58, 59, 60, 61, 62, 63, 64, 65, 66, 67, 68, 69, 70, 71, 72, 73, 74, 75, 76, 77, 78, 79, 13, 80, 96, 97] (by decide +kernel) (by decide +kernel)
set_option maxRecDepth 20000 in
theorem gX1_grow_X0_becomeNextOf : GoodIn wsX1_grow (wsV RX1 101 RX0 yX0_becomeNextOf wsX0_becomeNextOf) := goodIn_app (goodIn_of _ (by decide +kernel)) ggX1_grow_X0_becomeNextOf
set_option maxRecDepth 20000 in
theorem ggX1_grow_X0_copyFrom : GoodIn wsX1_grow wsX0_copyFrom := goodIn_r _ [84, 20, 32, 96, 97] (by decide +kernel) (by decide +kernel)
set_option maxRecDepth 20000 in
theorem gX1_grow_X0_copyFrom : GoodIn wsX1_grow (wsV RX1 105 RX0 yX0_copyFrom wsX0_copyFrom) := goodIn_app (goodIn_of _ (by decide +kernel)) ggX1_grow_X0_copyFrom
theorem dX1_grow_0 : decode cX1_grow 0 = .ok (.aload_n 0, 1) := by decide +kernel
theorem dX1_grow_1 : decode cX1_grow 1 = .ok (.getfield 43, 3) := by decide +kernel
theorem dX1_grow_4 : decode cX1_grow 4 = .ok (.bipush 60, 2) := by decide +kernel
theorem dX1_grow_6 : decode cX1_grow 6 = .ok (.if_icmp .lt 13, 3) := by decide +kernel
theorem dX1_grow_9 : decode cX1_grow 9 = .ok (.new 56, 3) := by decide +kernel
theorem dX1_grow_12 : decode cX1_grow 12 = .ok (.dup, 1) := by decide +kernel
theorem dX1_grow_13 : decode cX1_grow 13 = .ok (.ldc 96, 2) := by decide +kernel
theorem dX1_grow_15 : decode cX1_grow 15 = .ok (.invokespecial 60, 3) := by decide +kernel
theorem dX1_grow_18 : decode cX1_grow 18 = .ok (.athrow, 1) := by decide +kernel
theorem dX1_grow_19 : decode cX1_grow 19 = .ok (.aload_n 0, 1) := by decide +kernel
theorem dX1_grow_20 : decode cX1_grow 20 = .ok (.invokevirtual 98, 3) := by decide +kernel
theorem dX1_grow_23 : decode cX1_grow 23 = .ok (.istore_n 1, 1) := by decide +kernel
theorem dX1_grow_24 : decode cX1_grow 24 = .ok (.aload_n 0, 1) := by decide +kernel
theorem dX1_grow_25 : decode cX1_grow 25 = .ok (.dup, 1) := by decide +kernel
theorem dX1_grow_26 : decode cX1_grow 26 = .ok (.getfield 46, 3) := by decide +kernel
theorem dX1_grow_29 : decode cX1_grow 29 = .ok (.aload_n 0, 1) := by decide +kernel
theorem dX1_grow_30 : decode cX1_grow 30 = .ok (.getfield 19, 3) := by decide +kernel
theorem dX1_grow_33 : decode cX1_grow 33 = .ok (.aload_n 0, 1) := by decide +kernel
theorem dX1_grow_34 : decode cX1_grow 34 = .ok (.getfield 10, 3) := by decide +kernel
theorem dX1_grow_37 : decode cX1_grow 37 = .ok (.aload_n 0, 1) := by decide +kernel
theorem dX1_grow_38 : decode cX1_grow 38 = .ok (.getfield 33, 3) := by decide +kernel
theorem dX1_grow_41 : decode cX1_grow 41 = .ok (.aload_n 0, 1) := by decide +kernel
theorem dX1_grow_42 : decode cX1_grow 42 = .ok (.getfield 29, 3) := by decide +kernel
theorem dX1_grow_45 : decode cX1_grow 45 = .ok (.invokevirtual 101, 3) := by decide +kernel
theorem dX1_grow_48 : decode cX1_grow 48 = .ok (.iadd, 1) := by decide +kernel
theorem dX1_grow_49 : decode cX1_grow 49 = .ok (.putfield 46, 3) := by decide +kernel
theorem dX1_grow_52 : decode cX1_grow 52 = .ok (.aload_n 0, 1) := by decide +kernel
theorem dX1_grow_53 : decode cX1_grow 53 = .ok (.getfield 10, 3) := by decide +kernel
theorem dX1_grow_56 : decode cX1_grow 56 = .ok (.aload_n 0, 1) := by decide +kernel
theorem dX1_grow_57 : decode cX1_grow 57 = .ok (.getfield 19, 3) := by decide +kernel
theorem dX1_grow_60 : decode cX1_grow 60 = .ok (.invokevirtual 105, 3) := by decide +kernel
theorem dX1_grow_63 : decode cX1_grow 63 = .ok (.aload_n 0, 1) := by decide +kernel
theorem dX1_grow_64 : decode cX1_grow 64 = .ok (.dup, 1) := by decide +kernel
theorem dX1_grow_65 : decode cX1_grow 65 = .ok (.getfield 43, 3) := by decide +kernel
theorem dX1_grow_68 : decode cX1_grow 68 = .ok (.iconst 1, 1) := by decide +kernel
theorem dX1_grow_69 : decode cX1_grow 69 = .ok (.iadd, 1) := by decide +kernel
theorem dX1_grow_70 : decode cX1_grow 70 = .ok (.putfield 43, 3) := by decide +kernel
theorem dX1_grow_73 : decode cX1_grow 73 = .ok (.aload_n 0, 1) := by decide +kernel
theorem dX1_grow_74 : decode cX1_grow 74 = .ok (.iconst 0, 1) := by decide +kernel
theorem dX1_grow_75 : decode cX1_grow 75 = .ok (.putfield 40, 3) := by decide +kernel
theorem dX1_grow_78 : decode cX1_grow 78 = .ok (.aload_n 0, 1) := by decide +kernel
theorem dX1_grow_79 : decode cX1_grow 79 = .ok (.invokevirtual 98, 3) := by decide +kernel
theorem dX1_grow_82 : decode cX1_grow 82 = .ok (.iload_n 1, 1) := by decide +kernel
theorem dX1_grow_83 : decode cX1_grow 83 = .ok (.isub, 1) := by decide +kernel
theorem dX1_grow_84 : decode cX1_grow 84 = .ok (.ireturn, 1) := by decide +kernel
set_option maxRecDepth 20000 in
theorem ggX1_look_X1_requireCell : GoodIn wsX1_look wsX1_requireCell := goodIn_ca (goodIn_r _ [5, 6, 7, 8, 9, 4, 10] (by decide +kernel) (by decide +kernel)) (goodIn_sub (fun _ h => List.mem_cons_of_mem _ (List.mem_append_right _ h)) (by decide +kernel))
set_option maxRecDepth 20000 in
theorem gX1_look_X1_requireCell : GoodIn wsX1_look (va_wsS RX1 79 yX1_requireCell wsX1_requireCell) := goodIn_app (goodIn_of _ (by decide +kernel)) ggX1_look_X1_requireCell
set_option maxRecDepth 20000 in
theorem ggX1_look_X0_hasLeafAt : GoodIn wsX1_look wsX0_hasLeafAt := goodIn_r _ [15, 16, 17, 18, 14, 19, 20, 42, 43] (by decide +kernel) (by decide +kernel)
set_option maxRecDepth 20000 in
theorem gX1_look_X0_hasLeafAt : GoodIn wsX1_look (wsV RX1 82 RX0 yX0_hasLeafAt wsX0_hasLeafAt) := goodIn_app (goodIn_of _ (by decide +kernel)) ggX1_look_X0_hasLeafAt
set_option maxRecDepth 20000 in
theorem ggX1_look_X0_isBareAt : GoodIn wsX1_look wsX0_isBareAt := goodIn_r _ [24, 25, 12, 13, 14, 15, 16, 17, 18, 19, 20, 26, 27, 28, 29, 30, 42, 43] (by decide +kernel) (by decide +kernel)
set_option maxRecDepth 20000 in
theorem gX1_look_X0_isBareAt : GoodIn wsX1_look (wsV RX1 65 RX0 yX0_isBareAt wsX0_isBareAt) := goodIn_app (goodIn_of _ (by decide +kernel)) ggX1_look_X0_isBareAt
theorem dX1_look_0 : decode cX1_look 0 = .ok (.iload_n 1, 1) := by decide +kernel
theorem dX1_look_1 : decode cX1_look 1 = .ok (.iload_n 2, 1) := by decide +kernel
theorem dX1_look_2 : decode cX1_look 2 = .ok (.invokestatic 79, 3) := by decide +kernel
theorem dX1_look_5 : decode cX1_look 5 = .ok (.aload_n 0, 1) := by decide +kernel
theorem dX1_look_6 : decode cX1_look 6 = .ok (.getfield 10, 3) := by decide +kernel
theorem dX1_look_9 : decode cX1_look 9 = .ok (.iload_n 1, 1) := by decide +kernel
theorem dX1_look_10 : decode cX1_look 10 = .ok (.iload_n 2, 1) := by decide +kernel
theorem dX1_look_11 : decode cX1_look 11 = .ok (.invokevirtual 82, 3) := by decide +kernel
theorem dX1_look_14 : decode cX1_look 14 = .ok (.ifCond .eq 6, 3) := by decide +kernel
theorem dX1_look_17 : decode cX1_look 17 = .ok (.bipush 35, 2) := by decide +kernel
theorem dX1_look_19 : decode cX1_look 19 = .ok (.ireturn, 1) := by decide +kernel
theorem dX1_look_20 : decode cX1_look 20 = .ok (.aload_n 0, 1) := by decide +kernel
theorem dX1_look_21 : decode cX1_look 21 = .ok (.getfield 10, 3) := by decide +kernel
theorem dX1_look_24 : decode cX1_look 24 = .ok (.iload_n 1, 1) := by decide +kernel
theorem dX1_look_25 : decode cX1_look 25 = .ok (.iload_n 2, 1) := by decide +kernel
theorem dX1_look_26 : decode cX1_look 26 = .ok (.invokevirtual 65, 3) := by decide +kernel
theorem dX1_look_29 : decode cX1_look 29 = .ok (.ifCond .eq 8, 3) := by decide +kernel
theorem dX1_look_32 : decode cX1_look 32 = .ok (.bipush 46, 2) := by decide +kernel
theorem dX1_look_34 : decode cX1_look 34 = .ok (.goto 5, 3) := by decide +kernel
theorem dX1_look_37 : decode cX1_look 37 = .ok (.bipush 120, 2) := by decide +kernel
theorem dX1_look_39 : decode cX1_look 39 = .ok (.ireturn, 1) := by decide +kernel
set_option maxRecDepth 20000 in
theorem ggX1_shadeOf_X1_requireCell : GoodIn wsX1_shadeOf wsX1_requireCell := goodIn_ca (goodIn_r _ [5, 6, 7, 8, 9, 4, 10] (by decide +kernel) (by decide +kernel)) (goodIn_sub (fun _ h => List.mem_cons_of_mem _ (List.mem_append_right _ h)) (by decide +kernel))
set_option maxRecDepth 20000 in
theorem gX1_shadeOf_X1_requireCell : GoodIn wsX1_shadeOf (va_wsS RX1 79 yX1_requireCell wsX1_requireCell) := goodIn_app (goodIn_of _ (by decide +kernel)) ggX1_shadeOf_X1_requireCell
set_option maxRecDepth 20000 in
theorem ggX1_shadeOf_X0_shadeAt : GoodIn wsX1_shadeOf wsX0_shadeAt := goodIn_r _ [15, 16, 17, 18, 14, 19, 20, 32, 33] (by decide +kernel) (by decide +kernel)
set_option maxRecDepth 20000 in
theorem gX1_shadeOf_X0_shadeAt : GoodIn wsX1_shadeOf (wsV RX1 109 RX0 yX0_shadeAt wsX0_shadeAt) := goodIn_app (goodIn_of _ (by decide +kernel)) ggX1_shadeOf_X0_shadeAt
theorem dX1_shadeOf_0 : decode cX1_shadeOf 0 = .ok (.iload_n 1, 1) := by decide +kernel
theorem dX1_shadeOf_1 : decode cX1_shadeOf 1 = .ok (.iload_n 2, 1) := by decide +kernel
theorem dX1_shadeOf_2 : decode cX1_shadeOf 2 = .ok (.invokestatic 79, 3) := by decide +kernel
theorem dX1_shadeOf_5 : decode cX1_shadeOf 5 = .ok (.aload_n 0, 1) := by decide +kernel
theorem dX1_shadeOf_6 : decode cX1_shadeOf 6 = .ok (.getfield 10, 3) := by decide +kernel
theorem dX1_shadeOf_9 : decode cX1_shadeOf 9 = .ok (.iload_n 1, 1) := by decide +kernel
theorem dX1_shadeOf_10 : decode cX1_shadeOf 10 = .ok (.iload_n 2, 1) := by decide +kernel
theorem dX1_shadeOf_11 : decode cX1_shadeOf 11 = .ok (.invokevirtual 109, 3) := by decide +kernel
theorem dX1_shadeOf_14 : decode cX1_shadeOf 14 = .ok (.ireturn, 1) := by decide +kernel
set_option maxRecDepth 20000 in
theorem ggX1_holdersOf_X1_requireCell : GoodIn wsX1_holdersOf wsX1_requireCell := goodIn_ca (goodIn_r _ [6, 7, 8, 9, 10, 5, 11] (by decide +kernel) (by decide +kernel)) (goodIn_sub (fun _ h => List.mem_cons_of_mem _ (List.mem_append_right _ h)) (by decide +kernel))
set_option maxRecDepth 20000 in
theorem gX1_holdersOf_X1_requireCell : GoodIn wsX1_holdersOf (va_wsS RX1 79 yX1_requireCell wsX1_requireCell) := goodIn_app (goodIn_of _ (by decide +kernel)) ggX1_holdersOf_X1_requireCell
set_option maxRecDepth 20000 in
theorem ggX1_holdersOf_X0_holdersAt : GoodIn wsX1_holdersOf wsX0_holdersAt := goodIn_r _ [16, 17, 18, 19, 15, 20, 21, 22, 23, 24, 25, 26, 27, 28, 29, 30, 31, 32, 33, 34, 35, 47, 48] (by decide +kernel) (by decide +kernel)
set_option maxRecDepth 20000 in
theorem gX1_holdersOf_X0_holdersAt : GoodIn wsX1_holdersOf (wsV RX1 113 RX0 yX0_holdersAt wsX0_holdersAt) := goodIn_app (goodIn_of _ (by decide +kernel)) ggX1_holdersOf_X0_holdersAt
theorem dX1_holdersOf_0 : decode cX1_holdersOf 0 = .ok (.iload_n 1, 1) := by decide +kernel
theorem dX1_holdersOf_1 : decode cX1_holdersOf 1 = .ok (.iload_n 2, 1) := by decide +kernel
theorem dX1_holdersOf_2 : decode cX1_holdersOf 2 = .ok (.invokestatic 79, 3) := by decide +kernel
theorem dX1_holdersOf_5 : decode cX1_holdersOf 5 = .ok (.aload_n 0, 1) := by decide +kernel
theorem dX1_holdersOf_6 : decode cX1_holdersOf 6 = .ok (.getfield 10, 3) := by decide +kernel
theorem dX1_holdersOf_9 : decode cX1_holdersOf 9 = .ok (.iload_n 1, 1) := by decide +kernel
theorem dX1_holdersOf_10 : decode cX1_holdersOf 10 = .ok (.iload_n 2, 1) := by decide +kernel
theorem dX1_holdersOf_11 : decode cX1_holdersOf 11 = .ok (.aload_n 0, 1) := by decide +kernel
theorem dX1_holdersOf_12 : decode cX1_holdersOf 12 = .ok (.getfield 33, 3) := by decide +kernel
theorem dX1_holdersOf_15 : decode cX1_holdersOf 15 = .ok (.invokevirtual 113, 3) := by decide +kernel
theorem dX1_holdersOf_18 : decode cX1_holdersOf 18 = .ok (.ireturn, 1) := by decide +kernel
set_option maxRecDepth 20000 in
theorem ggX1_neighboursOf_X1_requireCell : GoodIn wsX1_neighboursOf wsX1_requireCell := goodIn_ca (goodIn_r _ [6, 7, 8, 9, 10, 5, 11] (by decide +kernel) (by decide +kernel)) (goodIn_sub (fun _ h => List.mem_cons_of_mem _ (List.mem_append_right _ h)) (by decide +kernel))
set_option maxRecDepth 20000 in
theorem gX1_neighboursOf_X1_requireCell : GoodIn wsX1_neighboursOf (va_wsS RX1 79 yX1_requireCell wsX1_requireCell) := goodIn_app (goodIn_of _ (by decide +kernel)) ggX1_neighboursOf_X1_requireCell
set_option maxRecDepth 20000 in
theorem ggX1_neighboursOf_X0_neighboursAt : GoodIn wsX1_neighboursOf wsX0_neighboursAt := goodIn_r _ [16, 17, 18, 19, 15, 20, 21, 22, 23, 24, 25, 26, 27, 28, 29, 30, 31, 32, 33, 34, 35, 47, 48] (by decide +kernel) (by decide +kernel)
set_option maxRecDepth 20000 in
theorem gX1_neighboursOf_X0_neighboursAt : GoodIn wsX1_neighboursOf (wsV RX1 117 RX0 yX0_neighboursAt wsX0_neighboursAt) := goodIn_app (goodIn_of _ (by decide +kernel)) ggX1_neighboursOf_X0_neighboursAt
theorem dX1_neighboursOf_0 : decode cX1_neighboursOf 0 = .ok (.iload_n 1, 1) := by decide +kernel
theorem dX1_neighboursOf_1 : decode cX1_neighboursOf 1 = .ok (.iload_n 2, 1) := by decide +kernel
theorem dX1_neighboursOf_2 : decode cX1_neighboursOf 2 = .ok (.invokestatic 79, 3) := by decide +kernel
theorem dX1_neighboursOf_5 : decode cX1_neighboursOf 5 = .ok (.aload_n 0, 1) := by decide +kernel
theorem dX1_neighboursOf_6 : decode cX1_neighboursOf 6 = .ok (.getfield 10, 3) := by decide +kernel
theorem dX1_neighboursOf_9 : decode cX1_neighboursOf 9 = .ok (.iload_n 1, 1) := by decide +kernel
theorem dX1_neighboursOf_10 : decode cX1_neighboursOf 10 = .ok (.iload_n 2, 1) := by decide +kernel
theorem dX1_neighboursOf_11 : decode cX1_neighboursOf 11 = .ok (.aload_n 0, 1) := by decide +kernel
theorem dX1_neighboursOf_12 : decode cX1_neighboursOf 12 = .ok (.getfield 33, 3) := by decide +kernel
theorem dX1_neighboursOf_15 : decode cX1_neighboursOf 15 = .ok (.invokevirtual 117, 3) := by decide +kernel
theorem dX1_neighboursOf_18 : decode cX1_neighboursOf 18 = .ok (.ireturn, 1) := by decide +kernel
set_option maxRecDepth 20000 in
theorem ggX1_leavesIn_X1_requireColumn : GoodIn wsX1_leavesIn wsX1_requireColumn := goodIn_ca (goodIn_r _ [5, 6, 7] (by decide +kernel) (by decide +kernel)) (goodIn_sub (fun _ h => List.mem_cons_of_mem _ (List.mem_append_right _ h)) (by decide +kernel))
set_option maxRecDepth 20000 in
theorem gX1_leavesIn_X1_requireColumn : GoodIn wsX1_leavesIn (va_wsS RX1 61 yX1_requireColumn wsX1_requireColumn) := goodIn_app (goodIn_of _ (by decide +kernel)) ggX1_leavesIn_X1_requireColumn
set_option maxRecDepth 20000 in
theorem ggX1_leavesIn_X0_countInColumn : GoodIn wsX1_leavesIn wsX0_countInColumn := goodIn_r _ [12, 13, 14, 15, 11, 16, 17, 18, 19, 20, 21, 33, 34] (by decide +kernel) (by decide +kernel)
set_option maxRecDepth 20000 in
theorem gX1_leavesIn_X0_countInColumn : GoodIn wsX1_leavesIn (wsV RX1 120 RX0 yX0_countInColumn wsX0_countInColumn) := goodIn_app (goodIn_of _ (by decide +kernel)) ggX1_leavesIn_X0_countInColumn
theorem dX1_leavesIn_0 : decode cX1_leavesIn 0 = .ok (.iload_n 1, 1) := by decide +kernel
theorem dX1_leavesIn_1 : decode cX1_leavesIn 1 = .ok (.invokestatic 61, 3) := by decide +kernel
theorem dX1_leavesIn_4 : decode cX1_leavesIn 4 = .ok (.aload_n 0, 1) := by decide +kernel
theorem dX1_leavesIn_5 : decode cX1_leavesIn 5 = .ok (.getfield 10, 3) := by decide +kernel
theorem dX1_leavesIn_8 : decode cX1_leavesIn 8 = .ok (.iload_n 1, 1) := by decide +kernel
theorem dX1_leavesIn_9 : decode cX1_leavesIn 9 = .ok (.invokevirtual 120, 3) := by decide +kernel
theorem dX1_leavesIn_12 : decode cX1_leavesIn 12 = .ok (.ireturn, 1) := by decide +kernel
set_option maxRecDepth 20000 in
theorem ggX1_leaves_X0_countLeaves : GoodIn wsX1_leaves wsX0_countLeaves := goodIn_r _ [6, 7, 8, 9, 10, 11, 12, 13, 14, 26, 27] (by decide +kernel) (by decide +kernel)
set_option maxRecDepth 20000 in
theorem gX1_leaves_X0_countLeaves : GoodIn wsX1_leaves (wsV RX1 124 RX0 yX0_countLeaves wsX0_countLeaves) := goodIn_app (goodIn_of _ (by decide +kernel)) ggX1_leaves_X0_countLeaves
theorem dX1_leaves_0 : decode cX1_leaves 0 = .ok (.aload_n 0, 1) := by decide +kernel
theorem dX1_leaves_1 : decode cX1_leaves 1 = .ok (.getfield 10, 3) := by decide +kernel
theorem dX1_leaves_4 : decode cX1_leaves 4 = .ok (.invokevirtual 124, 3) := by decide +kernel
theorem dX1_leaves_7 : decode cX1_leaves 7 = .ok (.ireturn, 1) := by decide +kernel
set_option maxRecDepth 20000 in
theorem ggX1_lit_X0_countLit : GoodIn wsX1_lit wsX0_countLit := goodIn_r _ [6, 7, 8, 9, 10, 11, 12, 13, 14, 26, 27] (by decide +kernel) (by decide +kernel)
set_option maxRecDepth 20000 in
theorem gX1_lit_X0_countLit : GoodIn wsX1_lit (wsV RX1 127 RX0 yX0_countLit wsX0_countLit) := goodIn_app (goodIn_of _ (by decide +kernel)) ggX1_lit_X0_countLit
theorem dX1_lit_0 : decode cX1_lit 0 = .ok (.aload_n 0, 1) := by decide +kernel
theorem dX1_lit_1 : decode cX1_lit 1 = .ok (.getfield 10, 3) := by decide +kernel
theorem dX1_lit_4 : decode cX1_lit 4 = .ok (.invokevirtual 127, 3) := by decide +kernel
theorem dX1_lit_7 : decode cX1_lit 7 = .ok (.ireturn, 1) := by decide +kernel
theorem dX1_generation_0 : decode cX1_generation 0 = .ok (.aload_n 0, 1) := by decide +kernel
theorem dX1_generation_1 : decode cX1_generation 1 = .ok (.getfield 43, 3) := by decide +kernel
theorem dX1_generation_4 : decode cX1_generation 4 = .ok (.ireturn, 1) := by decide +kernel
theorem dX1_cutsLeft_0 : decode cX1_cutsLeft 0 = .ok (.iconst 3, 1) := by decide +kernel
theorem dX1_cutsLeft_1 : decode cX1_cutsLeft 1 = .ok (.aload_n 0, 1) := by decide +kernel
theorem dX1_cutsLeft_2 : decode cX1_cutsLeft 2 = .ok (.getfield 40, 3) := by decide +kernel
theorem dX1_cutsLeft_5 : decode cX1_cutsLeft 5 = .ok (.isub, 1) := by decide +kernel
theorem dX1_cutsLeft_6 : decode cX1_cutsLeft 6 = .ok (.ireturn, 1) := by decide +kernel
theorem dX1_broken_0 : decode cX1_broken 0 = .ok (.aload_n 0, 1) := by decide +kernel
theorem dX1_broken_1 : decode cX1_broken 1 = .ok (.getfield 46, 3) := by decide +kernel
theorem dX1_broken_4 : decode cX1_broken 4 = .ok (.ireturn, 1) := by decide +kernel
set_option maxRecDepth 20000 in
theorem ggX1_leavesNext_X0_becomeNextOf : GoodIn wsX1_leavesNext wsX0_becomeNextOf := goodIn_r _ [9, 10, 11, 12, 13, 14, 8, 15, 16, 17, 18, 19, 20, 21, 22, 23, 24, 25, 26, 27, 28, 29, 30, 31, 32, 33, 34, 35, 36, 37, 38, 39, 40, 41, 42, 43, 44, 45, 46, 47, 48, 49, 50, 51, 52, 53, 54, 55, 56, 57, 58, 59, 60, 61, 62, 63, 64, 65, 66, 67, 83, 84] (by decide +kernel) (by decide +kernel)
set_option maxRecDepth 20000 in
theorem gX1_leavesNext_X0_becomeNextOf : GoodIn wsX1_leavesNext (wsV RX1 101 RX0 yX0_becomeNextOf wsX0_becomeNextOf) := goodIn_app (goodIn_of _ (by decide +kernel)) ggX1_leavesNext_X0_becomeNextOf
set_option maxRecDepth 20000 in
theorem ggX1_leavesNext_X0_countLeaves : GoodIn wsX1_leavesNext wsX0_countLeaves := goodIn_r _ [71, 10, 27, 28, 29, 30, 31, 32, 33, 83, 84] (by decide +kernel) (by decide +kernel)
set_option maxRecDepth 20000 in
theorem gX1_leavesNext_X0_countLeaves : GoodIn wsX1_leavesNext (wsV RX1 124 RX0 yX0_countLeaves wsX0_countLeaves) := goodIn_app (goodIn_of _ (by decide +kernel)) ggX1_leavesNext_X0_countLeaves
theorem dX1_leavesNext_0 : decode cX1_leavesNext 0 = .ok (.aload_n 0, 1) := by decide +kernel
theorem dX1_leavesNext_1 : decode cX1_leavesNext 1 = .ok (.getfield 19, 3) := by decide +kernel
theorem dX1_leavesNext_4 : decode cX1_leavesNext 4 = .ok (.aload_n 0, 1) := by decide +kernel
theorem dX1_leavesNext_5 : decode cX1_leavesNext 5 = .ok (.getfield 10, 3) := by decide +kernel
theorem dX1_leavesNext_8 : decode cX1_leavesNext 8 = .ok (.aload_n 0, 1) := by decide +kernel
theorem dX1_leavesNext_9 : decode cX1_leavesNext 9 = .ok (.getfield 33, 3) := by decide +kernel
theorem dX1_leavesNext_12 : decode cX1_leavesNext 12 = .ok (.aload_n 0, 1) := by decide +kernel
theorem dX1_leavesNext_13 : decode cX1_leavesNext 13 = .ok (.getfield 29, 3) := by decide +kernel
theorem dX1_leavesNext_16 : decode cX1_leavesNext 16 = .ok (.invokevirtual 101, 3) := by decide +kernel
theorem dX1_leavesNext_19 : decode cX1_leavesNext 19 = .ok (.pop, 1) := by decide +kernel
theorem dX1_leavesNext_20 : decode cX1_leavesNext 20 = .ok (.aload_n 0, 1) := by decide +kernel
theorem dX1_leavesNext_21 : decode cX1_leavesNext 21 = .ok (.getfield 19, 3) := by decide +kernel
theorem dX1_leavesNext_24 : decode cX1_leavesNext 24 = .ok (.invokevirtual 124, 3) := by decide +kernel
theorem dX1_leavesNext_27 : decode cX1_leavesNext 27 = .ok (.ireturn, 1) := by decide +kernel
set_option maxRecDepth 20000 in
theorem ggX1_repeatsIn_X0_hasCuts : GoodIn wsX1_repeatsIn wsX0_hasCuts := goodIn_r _ [10, 11, 102, 103] (by decide +kernel) (by decide +kernel)
set_option maxRecDepth 20000 in
theorem gX1_repeatsIn_X0_hasCuts : GoodIn wsX1_repeatsIn (wsV RX1 130 RX0 yX0_hasCuts wsX0_hasCuts) := goodIn_app (goodIn_of _ (by decide +kernel)) ggX1_repeatsIn_X0_hasCuts
set_option maxRecDepth 20000 in
theorem ggX1_repeatsIn_X0_copyFrom : GoodIn wsX1_repeatsIn wsX0_copyFrom := goodIn_r _ [15, 16, 11, 102, 103] (by decide +kernel) (by decide +kernel)
set_option maxRecDepth 20000 in
theorem gX1_repeatsIn_X0_copyFrom : GoodIn wsX1_repeatsIn (wsV RX1 105 RX0 yX0_copyFrom wsX0_copyFrom) := goodIn_app (goodIn_of _ (by decide +kernel)) ggX1_repeatsIn_X0_copyFrom
set_option maxRecDepth 20000 in
theorem ggX1_repeatsIn_X1_remember : GoodIn wsX1_repeatsIn wsX1_remember := goodIn_r _ [21, 22, 2, 23, 24, 25, 26, 9, 27, 28, 29, 30, 31, 16, 91, 92, 93, 94, 95, 96, 97, 98, 99, 100, 101, 102, 103] (by decide +kernel) (by decide +kernel)
set_option maxRecDepth 20000 in
theorem gX1_repeatsIn_X1_remember : GoodIn wsX1_repeatsIn (wsV RX1 134 RX1 yX1_remember wsX1_remember) := goodIn_app (goodIn_of _ (by decide +kernel)) ggX1_repeatsIn_X1_remember
set_option maxRecDepth 20000 in
theorem ggX1_repeatsIn_X0_becomeNextOf : GoodIn wsX1_repeatsIn wsX0_becomeNextOf := goodIn_r _ [35, 16, 11, 36, 37, 38, 9, 39, 28, 29, 30, 31, 40, 41, 42, 43, 44, 45, 46, 47, 48, 49, 50, 51, 52, 53, 54, 55, 56, 57, 58, 59, 60, 61, 62, 63, 64, 65, 66, 67, 68, 69, 70, 71, 72, 73, 74, 75, 76, 77, 78, 79, 80, 81, 82, 83, 84, 85, 20, 86, 102, 103] (by decide +kernel) (by decide +kernel)
set_option maxRecDepth 20000 in
theorem gX1_repeatsIn_X0_becomeNextOf : GoodIn wsX1_repeatsIn (wsV RX1 101 RX0 yX0_becomeNextOf wsX0_becomeNextOf) := goodIn_app (goodIn_of _ (by decide +kernel)) ggX1_repeatsIn_X0_becomeNextOf
set_option maxRecDepth 20000 in
theorem ggX1_repeatsIn_X1_looksAsBefore : GoodIn wsX1_repeatsIn wsX1_looksAsBefore := goodIn_r _ [90, 22, 23, 91, 92, 93, 94, 95, 96, 97, 98, 99, 100, 101] (by decide +kernel) (by decide +kernel)
set_option maxRecDepth 20000 in
theorem gX1_repeatsIn_X1_looksAsBefore : GoodIn wsX1_repeatsIn (wsV RX1 137 RX1 yX1_looksAsBefore wsX1_looksAsBefore) := goodIn_app (goodIn_of _ (by decide +kernel)) ggX1_repeatsIn_X1_looksAsBefore
theorem dX1_repeatsIn_0 : decode cX1_repeatsIn 0 = .ok (.aload_n 0, 1) := by decide +kernel
theorem dX1_repeatsIn_1 : decode cX1_repeatsIn 1 = .ok (.getfield 10, 3) := by decide +kernel
theorem dX1_repeatsIn_4 : decode cX1_repeatsIn 4 = .ok (.invokevirtual 130, 3) := by decide +kernel
theorem dX1_repeatsIn_7 : decode cX1_repeatsIn 7 = .ok (.ifCond .eq 7, 3) := by decide +kernel
theorem dX1_repeatsIn_10 : decode cX1_repeatsIn 10 = .ok (.iconst 1, 1) := by decide +kernel
theorem dX1_repeatsIn_11 : decode cX1_repeatsIn 11 = .ok (.goto 4, 3) := by decide +kernel
theorem dX1_repeatsIn_14 : decode cX1_repeatsIn 14 = .ok (.iconst 0, 1) := by decide +kernel
theorem dX1_repeatsIn_15 : decode cX1_repeatsIn 15 = .ok (.istore_n 1, 1) := by decide +kernel
theorem dX1_repeatsIn_16 : decode cX1_repeatsIn 16 = .ok (.aload_n 0, 1) := by decide +kernel
theorem dX1_repeatsIn_17 : decode cX1_repeatsIn 17 = .ok (.getfield 16, 3) := by decide +kernel
theorem dX1_repeatsIn_20 : decode cX1_repeatsIn 20 = .ok (.aload_n 0, 1) := by decide +kernel
theorem dX1_repeatsIn_21 : decode cX1_repeatsIn 21 = .ok (.getfield 10, 3) := by decide +kernel
theorem dX1_repeatsIn_24 : decode cX1_repeatsIn 24 = .ok (.invokevirtual 105, 3) := by decide +kernel
theorem dX1_repeatsIn_27 : decode cX1_repeatsIn 27 = .ok (.aload_n 0, 1) := by decide +kernel
theorem dX1_repeatsIn_28 : decode cX1_repeatsIn 28 = .ok (.iconst 0, 1) := by decide +kernel
theorem dX1_repeatsIn_29 : decode cX1_repeatsIn 29 = .ok (.invokevirtual 134, 3) := by decide +kernel
theorem dX1_repeatsIn_32 : decode cX1_repeatsIn 32 = .ok (.iconst 1, 1) := by decide +kernel
theorem dX1_repeatsIn_33 : decode cX1_repeatsIn 33 = .ok (.istore_n 2, 1) := by decide +kernel
theorem dX1_repeatsIn_34 : decode cX1_repeatsIn 34 = .ok (.iload_n 2, 1) := by decide +kernel
theorem dX1_repeatsIn_35 : decode cX1_repeatsIn 35 = .ok (.bipush 60, 2) := by decide +kernel
theorem dX1_repeatsIn_37 : decode cX1_repeatsIn 37 = .ok (.if_icmp .gt 56, 3) := by decide +kernel
theorem dX1_repeatsIn_40 : decode cX1_repeatsIn 40 = .ok (.aload_n 0, 1) := by decide +kernel
theorem dX1_repeatsIn_41 : decode cX1_repeatsIn 41 = .ok (.getfield 19, 3) := by decide +kernel
theorem dX1_repeatsIn_44 : decode cX1_repeatsIn 44 = .ok (.aload_n 0, 1) := by decide +kernel
theorem dX1_repeatsIn_45 : decode cX1_repeatsIn 45 = .ok (.getfield 16, 3) := by decide +kernel
theorem dX1_repeatsIn_48 : decode cX1_repeatsIn 48 = .ok (.aload_n 0, 1) := by decide +kernel
theorem dX1_repeatsIn_49 : decode cX1_repeatsIn 49 = .ok (.getfield 33, 3) := by decide +kernel
theorem dX1_repeatsIn_52 : decode cX1_repeatsIn 52 = .ok (.aload_n 0, 1) := by decide +kernel
theorem dX1_repeatsIn_53 : decode cX1_repeatsIn 53 = .ok (.getfield 29, 3) := by decide +kernel
theorem dX1_repeatsIn_56 : decode cX1_repeatsIn 56 = .ok (.invokevirtual 101, 3) := by decide +kernel
theorem dX1_repeatsIn_59 : decode cX1_repeatsIn 59 = .ok (.pop, 1) := by decide +kernel
theorem dX1_repeatsIn_60 : decode cX1_repeatsIn 60 = .ok (.aload_n 0, 1) := by decide +kernel
theorem dX1_repeatsIn_61 : decode cX1_repeatsIn 61 = .ok (.getfield 16, 3) := by decide +kernel
theorem dX1_repeatsIn_64 : decode cX1_repeatsIn 64 = .ok (.aload_n 0, 1) := by decide +kernel
theorem dX1_repeatsIn_65 : decode cX1_repeatsIn 65 = .ok (.getfield 19, 3) := by decide +kernel
theorem dX1_repeatsIn_68 : decode cX1_repeatsIn 68 = .ok (.invokevirtual 105, 3) := by decide +kernel
theorem dX1_repeatsIn_71 : decode cX1_repeatsIn 71 = .ok (.aload_n 0, 1) := by decide +kernel
theorem dX1_repeatsIn_72 : decode cX1_repeatsIn 72 = .ok (.iload_n 2, 1) := by decide +kernel
theorem dX1_repeatsIn_73 : decode cX1_repeatsIn 73 = .ok (.invokevirtual 134, 3) := by decide +kernel
theorem dX1_repeatsIn_76 : decode cX1_repeatsIn 76 = .ok (.aload_n 0, 1) := by decide +kernel
theorem dX1_repeatsIn_77 : decode cX1_repeatsIn 77 = .ok (.iload_n 2, 1) := by decide +kernel
theorem dX1_repeatsIn_78 : decode cX1_repeatsIn 78 = .ok (.iload_n 1, 1) := by decide +kernel
theorem dX1_repeatsIn_79 : decode cX1_repeatsIn 79 = .ok (.invokevirtual 137, 3) := by decide +kernel
theorem dX1_repeatsIn_82 : decode cX1_repeatsIn 82 = .ok (.ifCond .eq 5, 3) := by decide +kernel
theorem dX1_repeatsIn_85 : decode cX1_repeatsIn 85 = .ok (.iload_n 2, 1) := by decide +kernel
theorem dX1_repeatsIn_86 : decode cX1_repeatsIn 86 = .ok (.ireturn, 1) := by decide +kernel
theorem dX1_repeatsIn_87 : decode cX1_repeatsIn 87 = .ok (.iinc 2 1, 3) := by decide +kernel
theorem dX1_repeatsIn_90 : decode cX1_repeatsIn 90 = .ok (.goto (-56), 3) := by decide +kernel
theorem dX1_repeatsIn_93 : decode cX1_repeatsIn 93 = .ok (.iconst (-1), 1) := by decide +kernel
theorem dX1_repeatsIn_94 : decode cX1_repeatsIn 94 = .ok (.ireturn, 1) := by decide +kernel
set_option maxRecDepth 20000 in
theorem ggX1_bestCut_X0_hasLeafAt : GoodIn wsX1_bestCut wsX0_hasLeafAt := goodIn_r _ [6, 7, 8, 9, 5, 10, 11, 97, 98] (by decide +kernel) (by decide +kernel)
set_option maxRecDepth 20000 in
theorem gX1_bestCut_X0_hasLeafAt : GoodIn wsX1_bestCut (wsV RX1 82 RX0 yX0_hasLeafAt wsX0_hasLeafAt) := goodIn_app (goodIn_of _ (by decide +kernel)) ggX1_bestCut_X0_hasLeafAt
set_option maxRecDepth 20000 in
theorem ggX1_bestCut_X1_litBehindCut : GoodIn wsX1_bestCut wsX1_litBehindCut := goodIn_r _ [16, 17, 1, 18, 19, 20, 21, 22, 23, 5, 24, 11, 25, 26, 27, 28, 29, 30, 31, 32, 33, 34, 15, 35, 36, 37, 38, 39, 40, 41, 42, 43, 7, 8, 9, 10, 44, 45, 46, 47, 48, 49, 50, 51, 52, 53, 54, 55, 56, 57, 58, 59, 60, 61, 62, 63, 64, 65, 66, 67, 68, 69, 70, 71, 72, 73, 3, 4, 6, 74, 75, 76, 77, 78, 79, 80, 81, 82, 83, 84, 85, 86, 87, 88, 89, 90, 91, 92, 93, 94, 95, 96, 97, 98] (by decide +kernel) (by decide +kernel)
set_option maxRecDepth 20000 in
theorem gX1_bestCut_X1_litBehindCut : GoodIn wsX1_bestCut (wsV RX1 140 RX1 yX1_litBehindCut wsX1_litBehindCut) := goodIn_app (goodIn_of _ (by decide +kernel)) ggX1_bestCut_X1_litBehindCut
theorem dX1_bestCut_0 : decode cX1_bestCut 0 = .ok (.iconst (-1), 1) := by decide +kernel
theorem dX1_bestCut_1 : decode cX1_bestCut 1 = .ok (.istore_n 1, 1) := by decide +kernel
theorem dX1_bestCut_2 : decode cX1_bestCut 2 = .ok (.iconst (-1), 1) := by decide +kernel
theorem dX1_bestCut_3 : decode cX1_bestCut 3 = .ok (.istore_n 2, 1) := by decide +kernel
theorem dX1_bestCut_4 : decode cX1_bestCut 4 = .ok (.iconst 0, 1) := by decide +kernel
theorem dX1_bestCut_5 : decode cX1_bestCut 5 = .ok (.istore_n 3, 1) := by decide +kernel
theorem dX1_bestCut_6 : decode cX1_bestCut 6 = .ok (.iload_n 3, 1) := by decide +kernel
theorem dX1_bestCut_7 : decode cX1_bestCut 7 = .ok (.bipush 96, 2) := by decide +kernel
theorem dX1_bestCut_9 : decode cX1_bestCut 9 = .ok (.if_icmp .ge 56, 3) := by decide +kernel
theorem dX1_bestCut_12 : decode cX1_bestCut 12 = .ok (.iload_n 3, 1) := by decide +kernel
theorem dX1_bestCut_13 : decode cX1_bestCut 13 = .ok (.bipush 12, 2) := by decide +kernel
theorem dX1_bestCut_15 : decode cX1_bestCut 15 = .ok (.idiv, 1) := by decide +kernel
theorem dX1_bestCut_16 : decode cX1_bestCut 16 = .ok (.istore 4, 2) := by decide +kernel
theorem dX1_bestCut_18 : decode cX1_bestCut 18 = .ok (.iload_n 3, 1) := by decide +kernel
theorem dX1_bestCut_19 : decode cX1_bestCut 19 = .ok (.bipush 12, 2) := by decide +kernel
theorem dX1_bestCut_21 : decode cX1_bestCut 21 = .ok (.irem, 1) := by decide +kernel
theorem dX1_bestCut_22 : decode cX1_bestCut 22 = .ok (.istore 5, 2) := by decide +kernel
theorem dX1_bestCut_24 : decode cX1_bestCut 24 = .ok (.aload_n 0, 1) := by decide +kernel
theorem dX1_bestCut_25 : decode cX1_bestCut 25 = .ok (.getfield 10, 3) := by decide +kernel
theorem dX1_bestCut_28 : decode cX1_bestCut 28 = .ok (.iload 4, 2) := by decide +kernel
theorem dX1_bestCut_30 : decode cX1_bestCut 30 = .ok (.iload 5, 2) := by decide +kernel
theorem dX1_bestCut_32 : decode cX1_bestCut 32 = .ok (.invokevirtual 82, 3) := by decide +kernel
theorem dX1_bestCut_35 : decode cX1_bestCut 35 = .ok (.ifCond .eq 24, 3) := by decide +kernel
theorem dX1_bestCut_38 : decode cX1_bestCut 38 = .ok (.aload_n 0, 1) := by decide +kernel
theorem dX1_bestCut_39 : decode cX1_bestCut 39 = .ok (.iload 4, 2) := by decide +kernel
theorem dX1_bestCut_41 : decode cX1_bestCut 41 = .ok (.iload 5, 2) := by decide +kernel
theorem dX1_bestCut_43 : decode cX1_bestCut 43 = .ok (.invokevirtual 140, 3) := by decide +kernel
theorem dX1_bestCut_46 : decode cX1_bestCut 46 = .ok (.istore 6, 2) := by decide +kernel
theorem dX1_bestCut_48 : decode cX1_bestCut 48 = .ok (.iload 6, 2) := by decide +kernel
theorem dX1_bestCut_50 : decode cX1_bestCut 50 = .ok (.iload_n 2, 1) := by decide +kernel
theorem dX1_bestCut_51 : decode cX1_bestCut 51 = .ok (.if_icmp .le 8, 3) := by decide +kernel
theorem dX1_bestCut_54 : decode cX1_bestCut 54 = .ok (.iload 6, 2) := by decide +kernel
theorem dX1_bestCut_56 : decode cX1_bestCut 56 = .ok (.istore_n 2, 1) := by decide +kernel
theorem dX1_bestCut_57 : decode cX1_bestCut 57 = .ok (.iload_n 3, 1) := by decide +kernel
theorem dX1_bestCut_58 : decode cX1_bestCut 58 = .ok (.istore_n 1, 1) := by decide +kernel
theorem dX1_bestCut_59 : decode cX1_bestCut 59 = .ok (.iinc 3 1, 3) := by decide +kernel
theorem dX1_bestCut_62 : decode cX1_bestCut 62 = .ok (.goto (-56), 3) := by decide +kernel
theorem dX1_bestCut_65 : decode cX1_bestCut 65 = .ok (.iload_n 1, 1) := by decide +kernel
theorem dX1_bestCut_66 : decode cX1_bestCut 66 = .ok (.ireturn, 1) := by decide +kernel
set_option maxRecDepth 20000 in
theorem ggX1_litBehindCut_X0_copyFrom : GoodIn wsX1_litBehindCut wsX0_copyFrom := goodIn_r _ [10, 11, 12, 92, 93] (by decide +kernel) (by decide +kernel)
set_option maxRecDepth 20000 in
theorem gX1_litBehindCut_X0_copyFrom : GoodIn wsX1_litBehindCut (wsV RX1 105 RX0 yX0_copyFrom wsX0_copyFrom) := goodIn_app (goodIn_of _ (by decide +kernel)) ggX1_litBehindCut_X0_copyFrom
set_option maxRecDepth 20000 in
theorem ggX1_litBehindCut_X0_cutLeaf : GoodIn wsX1_litBehindCut wsX0_cutLeaf := goodIn_r _ [16, 12, 17, 18, 19, 9, 20, 11, 21, 22, 23, 92, 93] (by decide +kernel) (by decide +kernel)
set_option maxRecDepth 20000 in
theorem gX1_litBehindCut_X0_cutLeaf : GoodIn wsX1_litBehindCut (wsV RX1 93 RX0 yX0_cutLeaf wsX0_cutLeaf) := goodIn_app (goodIn_of _ (by decide +kernel)) ggX1_litBehindCut_X0_cutLeaf
set_option maxRecDepth 20000 in
theorem ggX1_litBehindCut_X0_becomeNextOf : GoodIn wsX1_litBehindCut wsX0_becomeNextOf := goodIn_r _ [27, 11, 12, 28, 29, 30, 9, 31, 32, 33, 34, 35, 36, 37, 38, 39, 40, 41, 42, 43, 44, 45, 46, 47, 48, 49, 50, 51, 52, 53, 54, 55, 56, 57, 58, 59, 60, 61, 62, 63, 64, 65, 66, 67, 68, 69, 70, 71, 72, 73, 74, 75, 76, 17, 18, 19, 20, 21, 22, 23, 92, 93] (by decide +kernel) (by decide +kernel)
set_option maxRecDepth 20000 in
theorem gX1_litBehindCut_X0_becomeNextOf : GoodIn wsX1_litBehindCut (wsV RX1 101 RX0 yX0_becomeNextOf wsX0_becomeNextOf) := goodIn_app (goodIn_of _ (by decide +kernel)) ggX1_litBehindCut_X0_becomeNextOf
set_option maxRecDepth 20000 in
theorem ggX1_litBehindCut_X0_countLit : GoodIn wsX1_litBehindCut wsX0_countLit := goodIn_r _ [80, 11, 43, 44, 45, 46, 47, 48, 49, 92, 93] (by decide +kernel) (by decide +kernel)
set_option maxRecDepth 20000 in
theorem gX1_litBehindCut_X0_countLit : GoodIn wsX1_litBehindCut (wsV RX1 127 RX0 yX0_countLit wsX0_countLit) := goodIn_app (goodIn_of _ (by decide +kernel)) ggX1_litBehindCut_X0_countLit
theorem dX1_litBehindCut_0 : decode cX1_litBehindCut 0 = .ok (.aload_n 0, 1) := by decide +kernel
theorem dX1_litBehindCut_1 : decode cX1_litBehindCut 1 = .ok (.getfield 16, 3) := by decide +kernel
theorem dX1_litBehindCut_4 : decode cX1_litBehindCut 4 = .ok (.aload_n 0, 1) := by decide +kernel
theorem dX1_litBehindCut_5 : decode cX1_litBehindCut 5 = .ok (.getfield 10, 3) := by decide +kernel
theorem dX1_litBehindCut_8 : decode cX1_litBehindCut 8 = .ok (.invokevirtual 105, 3) := by decide +kernel
theorem dX1_litBehindCut_11 : decode cX1_litBehindCut 11 = .ok (.aload_n 0, 1) := by decide +kernel
theorem dX1_litBehindCut_12 : decode cX1_litBehindCut 12 = .ok (.getfield 16, 3) := by decide +kernel
theorem dX1_litBehindCut_15 : decode cX1_litBehindCut 15 = .ok (.iload_n 1, 1) := by decide +kernel
theorem dX1_litBehindCut_16 : decode cX1_litBehindCut 16 = .ok (.iload_n 2, 1) := by decide +kernel
theorem dX1_litBehindCut_17 : decode cX1_litBehindCut 17 = .ok (.invokevirtual 93, 3) := by decide +kernel
theorem dX1_litBehindCut_20 : decode cX1_litBehindCut 20 = .ok (.aload_n 0, 1) := by decide +kernel
theorem dX1_litBehindCut_21 : decode cX1_litBehindCut 21 = .ok (.getfield 19, 3) := by decide +kernel
theorem dX1_litBehindCut_24 : decode cX1_litBehindCut 24 = .ok (.aload_n 0, 1) := by decide +kernel
theorem dX1_litBehindCut_25 : decode cX1_litBehindCut 25 = .ok (.getfield 16, 3) := by decide +kernel
theorem dX1_litBehindCut_28 : decode cX1_litBehindCut 28 = .ok (.aload_n 0, 1) := by decide +kernel
theorem dX1_litBehindCut_29 : decode cX1_litBehindCut 29 = .ok (.getfield 33, 3) := by decide +kernel
theorem dX1_litBehindCut_32 : decode cX1_litBehindCut 32 = .ok (.aload_n 0, 1) := by decide +kernel
theorem dX1_litBehindCut_33 : decode cX1_litBehindCut 33 = .ok (.getfield 29, 3) := by decide +kernel
theorem dX1_litBehindCut_36 : decode cX1_litBehindCut 36 = .ok (.invokevirtual 101, 3) := by decide +kernel
theorem dX1_litBehindCut_39 : decode cX1_litBehindCut 39 = .ok (.pop, 1) := by decide +kernel
theorem dX1_litBehindCut_40 : decode cX1_litBehindCut 40 = .ok (.aload_n 0, 1) := by decide +kernel
theorem dX1_litBehindCut_41 : decode cX1_litBehindCut 41 = .ok (.getfield 19, 3) := by decide +kernel
theorem dX1_litBehindCut_44 : decode cX1_litBehindCut 44 = .ok (.invokevirtual 127, 3) := by decide +kernel
theorem dX1_litBehindCut_47 : decode cX1_litBehindCut 47 = .ok (.ireturn, 1) := by decide +kernel
set_option maxRecDepth 20000 in
theorem ggX1_remember_X0_leavesOfHalf : GoodIn wsX1_remember wsX0_leavesOfHalf := goodIn_r _ [8, 9, 10, 11, 7, 12, 13, 25, 26] (by decide +kernel) (by decide +kernel)
set_option maxRecDepth 20000 in
theorem gX1_remember_X0_leavesOfHalf : GoodIn wsX1_remember (wsV RX1 146 RX0 yX0_leavesOfHalf wsX0_leavesOfHalf) := goodIn_app (goodIn_of _ (by decide +kernel)) ggX1_remember_X0_leavesOfHalf
theorem dX1_remember_0 : decode cX1_remember 0 = .ok (.aload_n 0, 1) := by decide +kernel
theorem dX1_remember_1 : decode cX1_remember 1 = .ok (.getfield 22, 3) := by decide +kernel
theorem dX1_remember_4 : decode cX1_remember 4 = .ok (.iload_n 1, 1) := by decide +kernel
theorem dX1_remember_5 : decode cX1_remember 5 = .ok (.aload_n 0, 1) := by decide +kernel
theorem dX1_remember_6 : decode cX1_remember 6 = .ok (.getfield 16, 3) := by decide +kernel
theorem dX1_remember_9 : decode cX1_remember 9 = .ok (.iconst 0, 1) := by decide +kernel
theorem dX1_remember_10 : decode cX1_remember 10 = .ok (.invokevirtual 146, 3) := by decide +kernel
theorem dX1_remember_13 : decode cX1_remember 13 = .ok (.lastore, 1) := by decide +kernel
theorem dX1_remember_14 : decode cX1_remember 14 = .ok (.aload_n 0, 1) := by decide +kernel
theorem dX1_remember_15 : decode cX1_remember 15 = .ok (.getfield 26, 3) := by decide +kernel
theorem dX1_remember_18 : decode cX1_remember 18 = .ok (.iload_n 1, 1) := by decide +kernel
theorem dX1_remember_19 : decode cX1_remember 19 = .ok (.aload_n 0, 1) := by decide +kernel
theorem dX1_remember_20 : decode cX1_remember 20 = .ok (.getfield 16, 3) := by decide +kernel
theorem dX1_remember_23 : decode cX1_remember 23 = .ok (.iconst 4, 1) := by decide +kernel
theorem dX1_remember_24 : decode cX1_remember 24 = .ok (.invokevirtual 146, 3) := by decide +kernel
theorem dX1_remember_27 : decode cX1_remember 27 = .ok (.lastore, 1) := by decide +kernel
theorem dX1_remember_28 : decode cX1_remember 28 = .ok (.return_, 1) := by decide +kernel
theorem dX1_looksAsBefore_0 : decode cX1_looksAsBefore 0 = .ok (.iload_n 2, 1) := by decide +kernel
theorem dX1_looksAsBefore_1 : decode cX1_looksAsBefore 1 = .ok (.istore_n 3, 1) := by decide +kernel
theorem dX1_looksAsBefore_2 : decode cX1_looksAsBefore 2 = .ok (.iload_n 3, 1) := by decide +kernel
theorem dX1_looksAsBefore_3 : decode cX1_looksAsBefore 3 = .ok (.iload_n 1, 1) := by decide +kernel
theorem dX1_looksAsBefore_4 : decode cX1_looksAsBefore 4 = .ok (.if_icmp .ge 43, 3) := by decide +kernel
theorem dX1_looksAsBefore_7 : decode cX1_looksAsBefore 7 = .ok (.aload_n 0, 1) := by decide +kernel
theorem dX1_looksAsBefore_8 : decode cX1_looksAsBefore 8 = .ok (.getfield 22, 3) := by decide +kernel
theorem dX1_looksAsBefore_11 : decode cX1_looksAsBefore 11 = .ok (.iload_n 3, 1) := by decide +kernel
theorem dX1_looksAsBefore_12 : decode cX1_looksAsBefore 12 = .ok (.laload, 1) := by decide +kernel
theorem dX1_looksAsBefore_13 : decode cX1_looksAsBefore 13 = .ok (.aload_n 0, 1) := by decide +kernel
theorem dX1_looksAsBefore_14 : decode cX1_looksAsBefore 14 = .ok (.getfield 22, 3) := by decide +kernel
theorem dX1_looksAsBefore_17 : decode cX1_looksAsBefore 17 = .ok (.iload_n 1, 1) := by decide +kernel
theorem dX1_looksAsBefore_18 : decode cX1_looksAsBefore 18 = .ok (.laload, 1) := by decide +kernel
theorem dX1_looksAsBefore_19 : decode cX1_looksAsBefore 19 = .ok (.lcmp, 1) := by decide +kernel
theorem dX1_looksAsBefore_20 : decode cX1_looksAsBefore 20 = .ok (.ifCond .ne 21, 3) := by decide +kernel
theorem dX1_looksAsBefore_23 : decode cX1_looksAsBefore 23 = .ok (.aload_n 0, 1) := by decide +kernel
theorem dX1_looksAsBefore_24 : decode cX1_looksAsBefore 24 = .ok (.getfield 26, 3) := by decide +kernel
theorem dX1_looksAsBefore_27 : decode cX1_looksAsBefore 27 = .ok (.iload_n 3, 1) := by decide +kernel
theorem dX1_looksAsBefore_28 : decode cX1_looksAsBefore 28 = .ok (.laload, 1) := by decide +kernel
theorem dX1_looksAsBefore_29 : decode cX1_looksAsBefore 29 = .ok (.aload_n 0, 1) := by decide +kernel
theorem dX1_looksAsBefore_30 : decode cX1_looksAsBefore 30 = .ok (.getfield 26, 3) := by decide +kernel
theorem dX1_looksAsBefore_33 : decode cX1_looksAsBefore 33 = .ok (.iload_n 1, 1) := by decide +kernel
theorem dX1_looksAsBefore_34 : decode cX1_looksAsBefore 34 = .ok (.laload, 1) := by decide +kernel
theorem dX1_looksAsBefore_35 : decode cX1_looksAsBefore 35 = .ok (.lcmp, 1) := by decide +kernel
theorem dX1_looksAsBefore_36 : decode cX1_looksAsBefore 36 = .ok (.ifCond .ne 5, 3) := by decide +kernel
theorem dX1_looksAsBefore_39 : decode cX1_looksAsBefore 39 = .ok (.iconst 1, 1) := by decide +kernel
theorem dX1_looksAsBefore_40 : decode cX1_looksAsBefore 40 = .ok (.ireturn, 1) := by decide +kernel
theorem dX1_looksAsBefore_41 : decode cX1_looksAsBefore 41 = .ok (.iinc 3 1, 3) := by decide +kernel
theorem dX1_looksAsBefore_44 : decode cX1_looksAsBefore 44 = .ok (.goto (-42), 3) := by decide +kernel
theorem dX1_looksAsBefore_47 : decode cX1_looksAsBefore 47 = .ok (.iconst 0, 1) := by decide +kernel
theorem dX1_looksAsBefore_48 : decode cX1_looksAsBefore 48 = .ok (.ireturn, 1) := by decide +kernel
theorem dX1_requireColumn_0 : decode cX1_requireColumn 0 = .ok (.iload_n 0, 1) := by decide +kernel
theorem dX1_requireColumn_1 : decode cX1_requireColumn 1 = .ok (.ifCond .lt 9, 3) := by decide +kernel
theorem dX1_requireColumn_4 : decode cX1_requireColumn 4 = .ok (.iload_n 0, 1) := by decide +kernel
theorem dX1_requireColumn_5 : decode cX1_requireColumn 5 = .ok (.bipush 12, 2) := by decide +kernel
theorem dX1_requireColumn_7 : decode cX1_requireColumn 7 = .ok (.if_icmp .lt 13, 3) := by decide +kernel
theorem dX1_requireColumn_10 : decode cX1_requireColumn 10 = .ok (.new 150, 3) := by decide +kernel
theorem dX1_requireColumn_13 : decode cX1_requireColumn 13 = .ok (.dup, 1) := by decide +kernel
theorem dX1_requireColumn_14 : decode cX1_requireColumn 14 = .ok (.ldc 152, 2) := by decide +kernel
theorem dX1_requireColumn_16 : decode cX1_requireColumn 16 = .ok (.invokespecial 154, 3) := by decide +kernel
theorem dX1_requireColumn_19 : decode cX1_requireColumn 19 = .ok (.athrow, 1) := by decide +kernel
theorem dX1_requireColumn_20 : decode cX1_requireColumn 20 = .ok (.return_, 1) := by decide +kernel
set_option maxRecDepth 20000 in
theorem ggX1_requireCell_X1_isCell : GoodIn wsX1_requireCell wsX1_isCell := goodIn_r _ [6] (by decide +kernel) (by decide +kernel)
set_option maxRecDepth 20000 in
theorem gX1_requireCell_X1_isCell : GoodIn wsX1_requireCell (va_wsS RX1 155 yX1_isCell wsX1_isCell) := goodIn_app (goodIn_of _ (by decide +kernel)) ggX1_requireCell_X1_isCell
theorem dX1_requireCell_0 : decode cX1_requireCell 0 = .ok (.iload_n 0, 1) := by decide +kernel
theorem dX1_requireCell_1 : decode cX1_requireCell 1 = .ok (.iload_n 1, 1) := by decide +kernel
theorem dX1_requireCell_2 : decode cX1_requireCell 2 = .ok (.invokestatic 155, 3) := by decide +kernel
theorem dX1_requireCell_5 : decode cX1_requireCell 5 = .ok (.ifCond .ne 13, 3) := by decide +kernel
theorem dX1_requireCell_8 : decode cX1_requireCell 8 = .ok (.new 150, 3) := by decide +kernel
theorem dX1_requireCell_11 : decode cX1_requireCell 11 = .ok (.dup, 1) := by decide +kernel
theorem dX1_requireCell_12 : decode cX1_requireCell 12 = .ok (.ldc 158, 2) := by decide +kernel
theorem dX1_requireCell_14 : decode cX1_requireCell 14 = .ok (.invokespecial 154, 3) := by decide +kernel
theorem dX1_requireCell_17 : decode cX1_requireCell 17 = .ok (.athrow, 1) := by decide +kernel
theorem dX1_requireCell_18 : decode cX1_requireCell 18 = .ok (.return_, 1) := by decide +kernel
theorem dX1_isCell_0 : decode cX1_isCell 0 = .ok (.iload_n 0, 1) := by decide +kernel
theorem dX1_isCell_1 : decode cX1_isCell 1 = .ok (.ifCond .lt 23, 3) := by decide +kernel
theorem dX1_isCell_4 : decode cX1_isCell 4 = .ok (.iload_n 0, 1) := by decide +kernel
theorem dX1_isCell_5 : decode cX1_isCell 5 = .ok (.bipush 8, 2) := by decide +kernel
theorem dX1_isCell_7 : decode cX1_isCell 7 = .ok (.if_icmp .ge 17, 3) := by decide +kernel
theorem dX1_isCell_10 : decode cX1_isCell 10 = .ok (.iload_n 1, 1) := by decide +kernel
theorem dX1_isCell_11 : decode cX1_isCell 11 = .ok (.ifCond .lt 13, 3) := by decide +kernel
theorem dX1_isCell_14 : decode cX1_isCell 14 = .ok (.iload_n 1, 1) := by decide +kernel
theorem dX1_isCell_15 : decode cX1_isCell 15 = .ok (.bipush 12, 2) := by decide +kernel
theorem dX1_isCell_17 : decode cX1_isCell 17 = .ok (.if_icmp .ge 7, 3) := by decide +kernel
theorem dX1_isCell_20 : decode cX1_isCell 20 = .ok (.iconst 1, 1) := by decide +kernel
theorem dX1_isCell_21 : decode cX1_isCell 21 = .ok (.goto 4, 3) := by decide +kernel
theorem dX1_isCell_24 : decode cX1_isCell 24 = .ok (.iconst 0, 1) := by decide +kernel
theorem dX1_isCell_25 : decode cX1_isCell 25 = .ok (.ireturn, 1) := by decide +kernel
theorem dJ6_bitCount_0f7a4_0 : decode cJ6_bitCount_0f7a4 0 = .ok (.iload_n 0, 1) := by decide +kernel
theorem dJ6_bitCount_0f7a4_1 : decode cJ6_bitCount_0f7a4 1 = .ok (.iload_n 0, 1) := by decide +kernel
theorem dJ6_bitCount_0f7a4_2 : decode cJ6_bitCount_0f7a4 2 = .ok (.iconst 1, 1) := by decide +kernel
theorem dJ6_bitCount_0f7a4_3 : decode cJ6_bitCount_0f7a4 3 = .ok (.iushr, 1) := by decide +kernel
theorem dJ6_bitCount_0f7a4_4 : decode cJ6_bitCount_0f7a4 4 = .ok (.ldc_w 265, 3) := by decide +kernel
theorem dJ6_bitCount_0f7a4_7 : decode cJ6_bitCount_0f7a4 7 = .ok (.iand, 1) := by decide +kernel
theorem dJ6_bitCount_0f7a4_8 : decode cJ6_bitCount_0f7a4 8 = .ok (.isub, 1) := by decide +kernel
theorem dJ6_bitCount_0f7a4_9 : decode cJ6_bitCount_0f7a4 9 = .ok (.istore_n 0, 1) := by decide +kernel
theorem dJ6_bitCount_0f7a4_10 : decode cJ6_bitCount_0f7a4 10 = .ok (.iload_n 0, 1) := by decide +kernel
theorem dJ6_bitCount_0f7a4_11 : decode cJ6_bitCount_0f7a4 11 = .ok (.ldc_w 266, 3) := by decide +kernel
theorem dJ6_bitCount_0f7a4_14 : decode cJ6_bitCount_0f7a4 14 = .ok (.iand, 1) := by decide +kernel
theorem dJ6_bitCount_0f7a4_15 : decode cJ6_bitCount_0f7a4 15 = .ok (.iload_n 0, 1) := by decide +kernel
theorem dJ6_bitCount_0f7a4_16 : decode cJ6_bitCount_0f7a4 16 = .ok (.iconst 2, 1) := by decide +kernel
theorem dJ6_bitCount_0f7a4_17 : decode cJ6_bitCount_0f7a4 17 = .ok (.iushr, 1) := by decide +kernel
theorem dJ6_bitCount_0f7a4_18 : decode cJ6_bitCount_0f7a4 18 = .ok (.ldc_w 266, 3) := by decide +kernel
theorem dJ6_bitCount_0f7a4_21 : decode cJ6_bitCount_0f7a4 21 = .ok (.iand, 1) := by decide +kernel
theorem dJ6_bitCount_0f7a4_22 : decode cJ6_bitCount_0f7a4 22 = .ok (.iadd, 1) := by decide +kernel
theorem dJ6_bitCount_0f7a4_23 : decode cJ6_bitCount_0f7a4 23 = .ok (.istore_n 0, 1) := by decide +kernel
theorem dJ6_bitCount_0f7a4_24 : decode cJ6_bitCount_0f7a4 24 = .ok (.iload_n 0, 1) := by decide +kernel
theorem dJ6_bitCount_0f7a4_25 : decode cJ6_bitCount_0f7a4 25 = .ok (.iload_n 0, 1) := by decide +kernel
theorem dJ6_bitCount_0f7a4_26 : decode cJ6_bitCount_0f7a4 26 = .ok (.iconst 4, 1) := by decide +kernel
theorem dJ6_bitCount_0f7a4_27 : decode cJ6_bitCount_0f7a4 27 = .ok (.iushr, 1) := by decide +kernel
theorem dJ6_bitCount_0f7a4_28 : decode cJ6_bitCount_0f7a4 28 = .ok (.iadd, 1) := by decide +kernel
theorem dJ6_bitCount_0f7a4_29 : decode cJ6_bitCount_0f7a4 29 = .ok (.ldc_w 267, 3) := by decide +kernel
theorem dJ6_bitCount_0f7a4_32 : decode cJ6_bitCount_0f7a4 32 = .ok (.iand, 1) := by decide +kernel
theorem dJ6_bitCount_0f7a4_33 : decode cJ6_bitCount_0f7a4 33 = .ok (.istore_n 0, 1) := by decide +kernel
theorem dJ6_bitCount_0f7a4_34 : decode cJ6_bitCount_0f7a4 34 = .ok (.iload_n 0, 1) := by decide +kernel
theorem dJ6_bitCount_0f7a4_35 : decode cJ6_bitCount_0f7a4 35 = .ok (.iload_n 0, 1) := by decide +kernel
theorem dJ6_bitCount_0f7a4_36 : decode cJ6_bitCount_0f7a4 36 = .ok (.bipush 8, 2) := by decide +kernel
theorem dJ6_bitCount_0f7a4_38 : decode cJ6_bitCount_0f7a4 38 = .ok (.iushr, 1) := by decide +kernel
theorem dJ6_bitCount_0f7a4_39 : decode cJ6_bitCount_0f7a4 39 = .ok (.iadd, 1) := by decide +kernel
theorem dJ6_bitCount_0f7a4_40 : decode cJ6_bitCount_0f7a4 40 = .ok (.istore_n 0, 1) := by decide +kernel
theorem dJ6_bitCount_0f7a4_41 : decode cJ6_bitCount_0f7a4 41 = .ok (.iload_n 0, 1) := by decide +kernel
theorem dJ6_bitCount_0f7a4_42 : decode cJ6_bitCount_0f7a4 42 = .ok (.iload_n 0, 1) := by decide +kernel
theorem dJ6_bitCount_0f7a4_43 : decode cJ6_bitCount_0f7a4 43 = .ok (.bipush 16, 2) := by decide +kernel
theorem dJ6_bitCount_0f7a4_45 : decode cJ6_bitCount_0f7a4 45 = .ok (.iushr, 1) := by decide +kernel
theorem dJ6_bitCount_0f7a4_46 : decode cJ6_bitCount_0f7a4 46 = .ok (.iadd, 1) := by decide +kernel
theorem dJ6_bitCount_0f7a4_47 : decode cJ6_bitCount_0f7a4 47 = .ok (.istore_n 0, 1) := by decide +kernel
theorem dJ6_bitCount_0f7a4_48 : decode cJ6_bitCount_0f7a4 48 = .ok (.iload_n 0, 1) := by decide +kernel
theorem dJ6_bitCount_0f7a4_49 : decode cJ6_bitCount_0f7a4 49 = .ok (.bipush 63, 2) := by decide +kernel
theorem dJ6_bitCount_0f7a4_51 : decode cJ6_bitCount_0f7a4 51 = .ok (.iand, 1) := by decide +kernel
theorem dJ6_bitCount_0f7a4_52 : decode cJ6_bitCount_0f7a4 52 = .ok (.ireturn, 1) := by decide +kernel
theorem dL_drawn_0 : decode cL_drawn 0 = .ok (.iload_n 1, 1) := by decide +kernel
theorem dL_drawn_1 : decode cL_drawn 1 = .ok (.aload_n 0, 1) := by decide +kernel
theorem dL_drawn_2 : decode cL_drawn 2 = .ok (.arraylength, 1) := by decide +kernel
theorem dL_drawn_3 : decode cL_drawn 3 = .ok (.if_icmp .ge 9, 3) := by decide +kernel
theorem dL_drawn_6 : decode cL_drawn 6 = .ok (.aload_n 0, 1) := by decide +kernel
theorem dL_drawn_7 : decode cL_drawn 7 = .ok (.iload_n 1, 1) := by decide +kernel
theorem dL_drawn_8 : decode cL_drawn 8 = .ok (.iaload, 1) := by decide +kernel
theorem dL_drawn_9 : decode cL_drawn 9 = .ok (.goto 11, 3) := by decide +kernel
theorem dL_drawn_12 : decode cL_drawn 12 = .ok (.ldc 7, 2) := by decide +kernel
theorem dL_drawn_14 : decode cL_drawn 14 = .ok (.iload_n 1, 1) := by decide +kernel
theorem dL_drawn_15 : decode cL_drawn 15 = .ok (.imul, 1) := by decide +kernel
theorem dL_drawn_16 : decode cL_drawn 16 = .ok (.sipush 7841, 3) := by decide +kernel
theorem dL_drawn_19 : decode cL_drawn 19 = .ok (.iadd, 1) := by decide +kernel
theorem dL_drawn_20 : decode cL_drawn 20 = .ok (.istore_n 3, 1) := by decide +kernel
theorem dL_drawn_21 : decode cL_drawn 21 = .ok (.iload_n 3, 1) := by decide +kernel
theorem dL_drawn_22 : decode cL_drawn 22 = .ok (.iconst 1, 1) := by decide +kernel
theorem dL_drawn_23 : decode cL_drawn 23 = .ok (.iushr, 1) := by decide +kernel
theorem dL_drawn_24 : decode cL_drawn 24 = .ok (.iload_n 2, 1) := by decide +kernel
theorem dL_drawn_25 : decode cL_drawn 25 = .ok (.irem, 1) := by decide +kernel
theorem dL_drawn_26 : decode cL_drawn 26 = .ok (.ireturn, 1) := by decide +kernel
set_option maxRecDepth 20000 in
theorem ggL_cutsAfter_X1_cut : GoodIn wsL_cutsAfter wsX1_cut := goodIn_ca (goodIn_ca (goodIn_r _ [6, 7, 8, 9, 10, 11, 12, 5, 13, 14, 15, 16, 17, 18, 19, 20, 21, 22, 23, 24, 25, 26, 27, 28, 29, 30, 31, 32, 33, 34, 35, 36, 37, 38, 39, 40, 41, 42, 43, 44, 45, 46, 47, 48, 49, 50, 51, 52, 53, 54] (by decide +kernel) (by decide +kernel)) (goodIn_sub (fun _ h => List.mem_cons_of_mem _ (List.mem_append_left _ (List.mem_append_right _ h))) (by decide +kernel))) (goodIn_sub (fun _ h => List.mem_cons_of_mem _ (List.mem_append_right _ h)) (by decide +kernel))
set_option maxRecDepth 20000 in
theorem gL_cutsAfter_X1_cut : GoodIn wsL_cutsAfter (wsV RL 8 RX1 yX1_cut wsX1_cut) := goodIn_app (goodIn_of _ (by decide +kernel)) ggL_cutsAfter_X1_cut
theorem dL_cutsAfter_0 : decode cL_cutsAfter 0 = .ok (.aload_n 0, 1) := by decide +kernel
theorem dL_cutsAfter_1 : decode cL_cutsAfter 1 = .ok (.iload_n 1, 1) := by decide +kernel
theorem dL_cutsAfter_2 : decode cL_cutsAfter 2 = .ok (.iload_n 2, 1) := by decide +kernel
theorem dL_cutsAfter_3 : decode cL_cutsAfter 3 = .ok (.invokevirtual 8, 3) := by decide +kernel
theorem dL_cutsAfter_6 : decode cL_cutsAfter 6 = .ok (.ireturn, 1) := by decide +kernel
theorem dL_cutsAfter_7 : decode cL_cutsAfter 7 = .ok (.astore_n 3, 1) := by decide +kernel
theorem dL_cutsAfter_8 : decode cL_cutsAfter 8 = .ok (.iconst (-1), 1) := by decide +kernel
theorem dL_cutsAfter_9 : decode cL_cutsAfter 9 = .ok (.ireturn, 1) := by decide +kernel
set_option maxRecDepth 20000 in
theorem ggL_grownBy_X1_grow : GoodIn wsL_grownBy wsX1_grow := goodIn_ca (goodIn_r _ [6, 7, 8, 9, 10, 11, 12, 13, 14, 15, 16, 17, 18, 5, 19, 20, 21, 22, 23, 24, 25, 26, 27, 28, 29, 30, 31, 32, 33, 34, 35, 36, 37, 38, 39, 40, 41, 42, 43, 44, 45, 46, 47, 48, 49, 50, 51, 52, 53, 54, 55, 56, 57, 58, 59, 60, 61, 62, 63, 64, 65, 66, 67, 68, 69, 70, 71, 72, 73, 74, 75, 76, 77, 78, 79, 80, 81, 82, 83, 84, 85, 86, 87, 88, 89, 90, 91, 92, 93, 94, 95, 96, 97, 98, 99, 100, 101, 102] (by decide +kernel) (by decide +kernel)) (goodIn_sub (fun _ h => List.mem_cons_of_mem _ (List.mem_append_right _ h)) (by decide +kernel))
set_option maxRecDepth 20000 in
theorem gL_grownBy_X1_grow : GoodIn wsL_grownBy (wsV RL 16 RX1 yX1_grow wsX1_grow) := goodIn_app (goodIn_of _ (by decide +kernel)) ggL_grownBy_X1_grow
theorem dL_grownBy_0 : decode cL_grownBy 0 = .ok (.aload_n 0, 1) := by decide +kernel
theorem dL_grownBy_1 : decode cL_grownBy 1 = .ok (.invokevirtual 16, 3) := by decide +kernel
theorem dL_grownBy_4 : decode cL_grownBy 4 = .ok (.ireturn, 1) := by decide +kernel
theorem dL_grownBy_5 : decode cL_grownBy 5 = .ok (.astore_n 1, 1) := by decide +kernel
theorem dL_grownBy_6 : decode cL_grownBy 6 = .ok (.bipush (-99), 2) := by decide +kernel
theorem dL_grownBy_8 : decode cL_grownBy 8 = .ok (.ireturn, 1) := by decide +kernel
set_option maxRecDepth 20000 in
theorem ggL_areMirrored_X1_leaves : GoodIn wsL_areMirrored wsX1_leaves := goodIn_r _ [5, 6, 7, 8, 9, 10, 11, 12, 13, 14, 15, 16, 17, 18, 19, 164, 165, 166, 167, 168, 169, 170, 171, 172, 173, 174, 175, 176] (by decide +kernel) (by decide +kernel)
set_option maxRecDepth 20000 in
theorem gL_areMirrored_X1_leaves : GoodIn wsL_areMirrored (wsV RL 20 RX1 yX1_leaves wsX1_leaves) := goodIn_app (goodIn_of _ (by decide +kernel)) ggL_areMirrored_X1_leaves
set_option maxRecDepth 20000 in
theorem ggL_areMirrored_X1_lit : GoodIn wsL_areMirrored wsX1_lit := goodIn_r _ [23, 6, 24, 25, 26, 10, 27, 12, 13, 14, 15, 16, 17, 18, 19, 164, 165, 166, 167, 168, 169, 170, 171, 172, 173, 174, 175, 176] (by decide +kernel) (by decide +kernel)
set_option maxRecDepth 20000 in
theorem gL_areMirrored_X1_lit : GoodIn wsL_areMirrored (wsV RL 23 RX1 yX1_lit wsX1_lit) := goodIn_app (goodIn_of _ (by decide +kernel)) ggL_areMirrored_X1_lit
set_option maxRecDepth 20000 in
theorem ggL_areMirrored_X1_generation : GoodIn wsL_areMirrored wsX1_generation := goodIn_r _ [31, 32, 164, 165, 166, 167, 168, 169, 170, 171, 172, 173, 174] (by decide +kernel) (by decide +kernel)
set_option maxRecDepth 20000 in
theorem gL_areMirrored_X1_generation : GoodIn wsL_areMirrored (wsV RL 26 RX1 yX1_generation wsX1_generation) := goodIn_app (goodIn_of _ (by decide +kernel)) ggL_areMirrored_X1_generation
set_option maxRecDepth 20000 in
theorem ggL_areMirrored_X1_cutsLeft : GoodIn wsL_areMirrored wsX1_cutsLeft := goodIn_r _ [36, 37, 164, 165, 166, 167, 168, 169, 170, 171, 172, 173, 174] (by decide +kernel) (by decide +kernel)
set_option maxRecDepth 20000 in
theorem gL_areMirrored_X1_cutsLeft : GoodIn wsL_areMirrored (wsV RL 29 RX1 yX1_cutsLeft wsX1_cutsLeft) := goodIn_app (goodIn_of _ (by decide +kernel)) ggL_areMirrored_X1_cutsLeft
set_option maxRecDepth 20000 in
theorem ggL_areMirrored_X1_broken : GoodIn wsL_areMirrored wsX1_broken := goodIn_r _ [41, 42, 164, 165, 166, 167, 168, 169, 170, 171, 172, 173, 174] (by decide +kernel) (by decide +kernel)
set_option maxRecDepth 20000 in
theorem gL_areMirrored_X1_broken : GoodIn wsL_areMirrored (wsV RL 32 RX1 yX1_broken wsX1_broken) := goodIn_app (goodIn_of _ (by decide +kernel)) ggL_areMirrored_X1_broken
set_option maxRecDepth 20000 in
theorem ggL_areMirrored_X1_leavesNext : GoodIn wsL_areMirrored wsX1_leavesNext := goodIn_r _ [46, 47, 6, 48, 49, 50, 51, 52, 10, 53, 12, 54, 55, 56, 57, 58, 59, 60, 61, 62, 63, 64, 65, 66, 67, 68, 69, 13, 14, 15, 16, 17, 18, 19, 70, 71, 72, 73, 74, 75, 76, 77, 78, 79, 80, 81, 82, 83, 84, 85, 86, 87, 88, 89, 90, 91, 92, 93, 94, 95, 96, 97, 98, 99, 100, 101, 4, 102, 7, 8, 9, 11, 164, 165, 166, 167, 168, 169, 170, 171, 172, 173, 174, 175, 176] (by decide +kernel) (by decide +kernel)
set_option maxRecDepth 20000 in
theorem gL_areMirrored_X1_leavesNext : GoodIn wsL_areMirrored (wsV RL 35 RX1 yX1_leavesNext wsX1_leavesNext) := goodIn_app (goodIn_of _ (by decide +kernel)) ggL_areMirrored_X1_leavesNext
set_option maxRecDepth 20000 in
theorem ggL_areMirrored_X1_look : GoodIn wsL_areMirrored wsX1_look := goodIn_ca (goodIn_r _ [106, 6, 107, 108, 4, 109, 110, 111, 112, 101, 102, 113, 86, 87, 10, 88, 59, 60, 61, 62, 12, 114, 115, 116, 117, 85, 77, 78, 79, 80, 54, 164, 165, 166, 167, 168, 169, 170, 171, 172, 173, 174, 175, 176] (by decide +kernel) (by decide +kernel)) (goodIn_sub (fun _ h => List.mem_cons_of_mem _ (List.mem_append_right _ h)) (by decide +kernel))
set_option maxRecDepth 20000 in
theorem gL_areMirrored_X1_look : GoodIn wsL_areMirrored (wsV RL 38 RX1 yX1_look wsX1_look) := goodIn_app (goodIn_of _ (by decide +kernel)) ggL_areMirrored_X1_look
set_option maxRecDepth 20000 in
theorem ggL_areMirrored_X1_shadeOf : GoodIn wsL_areMirrored wsX1_shadeOf := goodIn_ca (goodIn_r _ [121, 6, 107, 108, 4, 109, 110, 111, 112, 101, 102, 122, 82, 83, 10, 84, 59, 60, 61, 62, 12, 164, 165, 166, 167, 168, 169, 170, 171, 172, 173, 174, 175, 176] (by decide +kernel) (by decide +kernel)) (goodIn_sub (fun _ h => List.mem_cons_of_mem _ (List.mem_append_right _ h)) (by decide +kernel))
set_option maxRecDepth 20000 in
theorem gL_areMirrored_X1_shadeOf : GoodIn wsL_areMirrored (wsV RL 42 RX1 yX1_shadeOf wsX1_shadeOf) := goodIn_app (goodIn_of _ (by decide +kernel)) ggL_areMirrored_X1_shadeOf
set_option maxRecDepth 20000 in
theorem ggL_areMirrored_X1_holdersOf : GoodIn wsL_areMirrored wsX1_holdersOf := goodIn_ca (goodIn_r _ [126, 6, 48, 107, 108, 4, 109, 110, 111, 112, 101, 102, 127, 128, 129, 10, 130, 63, 64, 65, 66, 59, 60, 61, 62, 12, 67, 68, 69, 13, 14, 15, 16, 17, 18, 19, 164, 165, 166, 167, 168, 169, 170, 171, 172, 173, 174, 175, 176] (by decide +kernel) (by decide +kernel)) (goodIn_sub (fun _ h => List.mem_cons_of_mem _ (List.mem_append_right _ h)) (by decide +kernel))
set_option maxRecDepth 20000 in
theorem gL_areMirrored_X1_holdersOf : GoodIn wsL_areMirrored (wsV RL 45 RX1 yX1_holdersOf wsX1_holdersOf) := goodIn_app (goodIn_of _ (by decide +kernel)) ggL_areMirrored_X1_holdersOf
set_option maxRecDepth 20000 in
theorem ggL_areMirrored_X1_neighboursOf : GoodIn wsL_areMirrored wsX1_neighboursOf := goodIn_ca (goodIn_r _ [134, 6, 48, 107, 108, 4, 109, 110, 111, 112, 101, 102, 135, 136, 137, 10, 138, 63, 64, 65, 66, 59, 60, 61, 62, 12, 70, 71, 72, 13, 14, 15, 16, 17, 18, 19, 164, 165, 166, 167, 168, 169, 170, 171, 172, 173, 174, 175, 176] (by decide +kernel) (by decide +kernel)) (goodIn_sub (fun _ h => List.mem_cons_of_mem _ (List.mem_append_right _ h)) (by decide +kernel))
set_option maxRecDepth 20000 in
theorem gL_areMirrored_X1_neighboursOf : GoodIn wsL_areMirrored (wsV RL 48 RX1 yX1_neighboursOf wsX1_neighboursOf) := goodIn_app (goodIn_of _ (by decide +kernel)) ggL_areMirrored_X1_neighboursOf
set_option maxRecDepth 20000 in
theorem ggL_areMirrored_X1_leavesIn : GoodIn wsL_areMirrored wsX1_leavesIn := goodIn_ca (goodIn_r _ [142, 6, 143, 144, 4, 145, 110, 111, 146, 90, 91, 10, 92, 81, 82, 83, 84, 59, 60, 61, 62, 12, 164, 165, 166, 167, 168, 169, 170, 171, 172, 173, 174, 175, 176] (by decide +kernel) (by decide +kernel)) (goodIn_sub (fun _ h => List.mem_cons_of_mem _ (List.mem_append_right _ h)) (by decide +kernel))
set_option maxRecDepth 20000 in
theorem gL_areMirrored_X1_leavesIn : GoodIn wsL_areMirrored (wsV RL 51 RX1 yX1_leavesIn wsX1_leavesIn) := goodIn_app (goodIn_of _ (by decide +kernel)) ggL_areMirrored_X1_leavesIn
set_option maxRecDepth 20000 in
theorem ggL_areMirrored_X1_bestCut : GoodIn wsL_areMirrored wsX1_bestCut := goodIn_r _ [150, 6, 113, 86, 87, 10, 88, 59, 60, 61, 62, 12, 151, 152, 153, 4, 154, 155, 47, 48, 49, 156, 157, 158, 159, 54, 160, 161, 162, 163, 97, 98, 99, 100, 101, 102, 50, 51, 52, 53, 55, 56, 57, 58, 63, 64, 65, 66, 67, 68, 69, 13, 14, 15, 16, 17, 18, 19, 70, 71, 72, 73, 74, 75, 76, 77, 78, 79, 80, 81, 82, 83, 84, 85, 89, 90, 91, 92, 93, 94, 95, 96, 24, 25, 26, 27, 164, 165, 166, 167, 168, 169, 170, 171, 172, 173, 174, 175, 176] (by decide +kernel) (by decide +kernel)
set_option maxRecDepth 20000 in
theorem gL_areMirrored_X1_bestCut : GoodIn wsL_areMirrored (wsV RL 55 RX1 yX1_bestCut wsX1_bestCut) := goodIn_app (goodIn_of _ (by decide +kernel)) ggL_areMirrored_X1_bestCut
theorem dL_areMirrored_0 : decode cL_areMirrored 0 = .ok (.aload_n 0, 1) := by decide +kernel
theorem dL_areMirrored_1 : decode cL_areMirrored 1 = .ok (.invokevirtual 20, 3) := by decide +kernel
theorem dL_areMirrored_4 : decode cL_areMirrored 4 = .ok (.aload_n 1, 1) := by decide +kernel
theorem dL_areMirrored_5 : decode cL_areMirrored 5 = .ok (.invokevirtual 20, 3) := by decide +kernel
theorem dL_areMirrored_8 : decode cL_areMirrored 8 = .ok (.if_icmp .ne 62, 3) := by decide +kernel
theorem dL_areMirrored_11 : decode cL_areMirrored 11 = .ok (.aload_n 0, 1) := by decide +kernel
theorem dL_areMirrored_12 : decode cL_areMirrored 12 = .ok (.invokevirtual 23, 3) := by decide +kernel
theorem dL_areMirrored_15 : decode cL_areMirrored 15 = .ok (.aload_n 1, 1) := by decide +kernel
theorem dL_areMirrored_16 : decode cL_areMirrored 16 = .ok (.invokevirtual 23, 3) := by decide +kernel
theorem dL_areMirrored_19 : decode cL_areMirrored 19 = .ok (.if_icmp .ne 51, 3) := by decide +kernel
theorem dL_areMirrored_22 : decode cL_areMirrored 22 = .ok (.aload_n 0, 1) := by decide +kernel
theorem dL_areMirrored_23 : decode cL_areMirrored 23 = .ok (.invokevirtual 26, 3) := by decide +kernel
theorem dL_areMirrored_26 : decode cL_areMirrored 26 = .ok (.aload_n 1, 1) := by decide +kernel
theorem dL_areMirrored_27 : decode cL_areMirrored 27 = .ok (.invokevirtual 26, 3) := by decide +kernel
theorem dL_areMirrored_30 : decode cL_areMirrored 30 = .ok (.if_icmp .ne 40, 3) := by decide +kernel
theorem dL_areMirrored_33 : decode cL_areMirrored 33 = .ok (.aload_n 0, 1) := by decide +kernel
theorem dL_areMirrored_34 : decode cL_areMirrored 34 = .ok (.invokevirtual 29, 3) := by decide +kernel
theorem dL_areMirrored_37 : decode cL_areMirrored 37 = .ok (.aload_n 1, 1) := by decide +kernel
theorem dL_areMirrored_38 : decode cL_areMirrored 38 = .ok (.invokevirtual 29, 3) := by decide +kernel
theorem dL_areMirrored_41 : decode cL_areMirrored 41 = .ok (.if_icmp .ne 29, 3) := by decide +kernel
theorem dL_areMirrored_44 : decode cL_areMirrored 44 = .ok (.aload_n 0, 1) := by decide +kernel
theorem dL_areMirrored_45 : decode cL_areMirrored 45 = .ok (.invokevirtual 32, 3) := by decide +kernel
theorem dL_areMirrored_48 : decode cL_areMirrored 48 = .ok (.aload_n 1, 1) := by decide +kernel
theorem dL_areMirrored_49 : decode cL_areMirrored 49 = .ok (.invokevirtual 32, 3) := by decide +kernel
theorem dL_areMirrored_52 : decode cL_areMirrored 52 = .ok (.if_icmp .ne 18, 3) := by decide +kernel
theorem dL_areMirrored_55 : decode cL_areMirrored 55 = .ok (.aload_n 0, 1) := by decide +kernel
theorem dL_areMirrored_56 : decode cL_areMirrored 56 = .ok (.invokevirtual 35, 3) := by decide +kernel
theorem dL_areMirrored_59 : decode cL_areMirrored 59 = .ok (.aload_n 1, 1) := by decide +kernel
theorem dL_areMirrored_60 : decode cL_areMirrored 60 = .ok (.invokevirtual 35, 3) := by decide +kernel
theorem dL_areMirrored_63 : decode cL_areMirrored 63 = .ok (.if_icmp .ne 7, 3) := by decide +kernel
theorem dL_areMirrored_66 : decode cL_areMirrored 66 = .ok (.iconst 1, 1) := by decide +kernel
theorem dL_areMirrored_67 : decode cL_areMirrored 67 = .ok (.goto 4, 3) := by decide +kernel
theorem dL_areMirrored_70 : decode cL_areMirrored 70 = .ok (.iconst 0, 1) := by decide +kernel
theorem dL_areMirrored_71 : decode cL_areMirrored 71 = .ok (.istore_n 2, 1) := by decide +kernel
theorem dL_areMirrored_72 : decode cL_areMirrored 72 = .ok (.iconst 0, 1) := by decide +kernel
theorem dL_areMirrored_73 : decode cL_areMirrored 73 = .ok (.istore_n 3, 1) := by decide +kernel
theorem dL_areMirrored_74 : decode cL_areMirrored 74 = .ok (.iload_n 3, 1) := by decide +kernel
theorem dL_areMirrored_75 : decode cL_areMirrored 75 = .ok (.bipush 96, 2) := by decide +kernel
theorem dL_areMirrored_77 : decode cL_areMirrored 77 = .ok (.if_icmp .ge 134, 3) := by decide +kernel
theorem dL_areMirrored_80 : decode cL_areMirrored 80 = .ok (.iload_n 3, 1) := by decide +kernel
theorem dL_areMirrored_81 : decode cL_areMirrored 81 = .ok (.bipush 12, 2) := by decide +kernel
theorem dL_areMirrored_83 : decode cL_areMirrored 83 = .ok (.idiv, 1) := by decide +kernel
theorem dL_areMirrored_84 : decode cL_areMirrored 84 = .ok (.istore 4, 2) := by decide +kernel
theorem dL_areMirrored_86 : decode cL_areMirrored 86 = .ok (.iload_n 3, 1) := by decide +kernel
theorem dL_areMirrored_87 : decode cL_areMirrored 87 = .ok (.bipush 12, 2) := by decide +kernel
theorem dL_areMirrored_89 : decode cL_areMirrored 89 = .ok (.irem, 1) := by decide +kernel
theorem dL_areMirrored_90 : decode cL_areMirrored 90 = .ok (.istore 5, 2) := by decide +kernel
theorem dL_areMirrored_92 : decode cL_areMirrored 92 = .ok (.bipush 11, 2) := by decide +kernel
theorem dL_areMirrored_94 : decode cL_areMirrored 94 = .ok (.iload 5, 2) := by decide +kernel
theorem dL_areMirrored_96 : decode cL_areMirrored 96 = .ok (.isub, 1) := by decide +kernel
theorem dL_areMirrored_97 : decode cL_areMirrored 97 = .ok (.istore 6, 2) := by decide +kernel
theorem dL_areMirrored_99 : decode cL_areMirrored 99 = .ok (.iload_n 2, 1) := by decide +kernel
theorem dL_areMirrored_100 : decode cL_areMirrored 100 = .ok (.ifCond .eq 103, 3) := by decide +kernel
theorem dL_areMirrored_103 : decode cL_areMirrored 103 = .ok (.aload_n 0, 1) := by decide +kernel
theorem dL_areMirrored_104 : decode cL_areMirrored 104 = .ok (.iload 4, 2) := by decide +kernel
theorem dL_areMirrored_106 : decode cL_areMirrored 106 = .ok (.iload 5, 2) := by decide +kernel
theorem dL_areMirrored_108 : decode cL_areMirrored 108 = .ok (.invokevirtual 38, 3) := by decide +kernel
theorem dL_areMirrored_111 : decode cL_areMirrored 111 = .ok (.aload_n 1, 1) := by decide +kernel
theorem dL_areMirrored_112 : decode cL_areMirrored 112 = .ok (.iload 4, 2) := by decide +kernel
theorem dL_areMirrored_114 : decode cL_areMirrored 114 = .ok (.iload 6, 2) := by decide +kernel
theorem dL_areMirrored_116 : decode cL_areMirrored 116 = .ok (.invokevirtual 38, 3) := by decide +kernel
theorem dL_areMirrored_119 : decode cL_areMirrored 119 = .ok (.if_icmp .ne 84, 3) := by decide +kernel
theorem dL_areMirrored_122 : decode cL_areMirrored 122 = .ok (.aload_n 0, 1) := by decide +kernel
theorem dL_areMirrored_123 : decode cL_areMirrored 123 = .ok (.iload 4, 2) := by decide +kernel
theorem dL_areMirrored_125 : decode cL_areMirrored 125 = .ok (.iload 5, 2) := by decide +kernel
theorem dL_areMirrored_127 : decode cL_areMirrored 127 = .ok (.invokevirtual 42, 3) := by decide +kernel
theorem dL_areMirrored_130 : decode cL_areMirrored 130 = .ok (.aload_n 1, 1) := by decide +kernel
theorem dL_areMirrored_131 : decode cL_areMirrored 131 = .ok (.iload 4, 2) := by decide +kernel
theorem dL_areMirrored_133 : decode cL_areMirrored 133 = .ok (.iload 6, 2) := by decide +kernel
theorem dL_areMirrored_135 : decode cL_areMirrored 135 = .ok (.invokevirtual 42, 3) := by decide +kernel
theorem dL_areMirrored_138 : decode cL_areMirrored 138 = .ok (.if_icmp .ne 65, 3) := by decide +kernel
theorem dL_areMirrored_141 : decode cL_areMirrored 141 = .ok (.aload_n 0, 1) := by decide +kernel
theorem dL_areMirrored_142 : decode cL_areMirrored 142 = .ok (.iload 4, 2) := by decide +kernel
theorem dL_areMirrored_144 : decode cL_areMirrored 144 = .ok (.iload 5, 2) := by decide +kernel
theorem dL_areMirrored_146 : decode cL_areMirrored 146 = .ok (.invokevirtual 45, 3) := by decide +kernel
theorem dL_areMirrored_149 : decode cL_areMirrored 149 = .ok (.aload_n 1, 1) := by decide +kernel
theorem dL_areMirrored_150 : decode cL_areMirrored 150 = .ok (.iload 4, 2) := by decide +kernel
theorem dL_areMirrored_152 : decode cL_areMirrored 152 = .ok (.iload 6, 2) := by decide +kernel
theorem dL_areMirrored_154 : decode cL_areMirrored 154 = .ok (.invokevirtual 45, 3) := by decide +kernel
theorem dL_areMirrored_157 : decode cL_areMirrored 157 = .ok (.if_icmp .ne 46, 3) := by decide +kernel
theorem dL_areMirrored_160 : decode cL_areMirrored 160 = .ok (.aload_n 0, 1) := by decide +kernel
theorem dL_areMirrored_161 : decode cL_areMirrored 161 = .ok (.iload 4, 2) := by decide +kernel
theorem dL_areMirrored_163 : decode cL_areMirrored 163 = .ok (.iload 5, 2) := by decide +kernel
theorem dL_areMirrored_165 : decode cL_areMirrored 165 = .ok (.invokevirtual 48, 3) := by decide +kernel
theorem dL_areMirrored_168 : decode cL_areMirrored 168 = .ok (.aload_n 1, 1) := by decide +kernel
theorem dL_areMirrored_169 : decode cL_areMirrored 169 = .ok (.iload 4, 2) := by decide +kernel
theorem dL_areMirrored_171 : decode cL_areMirrored 171 = .ok (.iload 6, 2) := by decide +kernel
theorem dL_areMirrored_173 : decode cL_areMirrored 173 = .ok (.invokevirtual 48, 3) := by decide +kernel
theorem dL_areMirrored_176 : decode cL_areMirrored 176 = .ok (.if_icmp .ne 27, 3) := by decide +kernel
theorem dL_areMirrored_179 : decode cL_areMirrored 179 = .ok (.iload 4, 2) := by decide +kernel
theorem dL_areMirrored_181 : decode cL_areMirrored 181 = .ok (.ifCond .gt 18, 3) := by decide +kernel
theorem dL_areMirrored_184 : decode cL_areMirrored 184 = .ok (.aload_n 0, 1) := by decide +kernel
theorem dL_areMirrored_185 : decode cL_areMirrored 185 = .ok (.iload 5, 2) := by decide +kernel
theorem dL_areMirrored_187 : decode cL_areMirrored 187 = .ok (.invokevirtual 51, 3) := by decide +kernel
theorem dL_areMirrored_190 : decode cL_areMirrored 190 = .ok (.aload_n 1, 1) := by decide +kernel
theorem dL_areMirrored_191 : decode cL_areMirrored 191 = .ok (.iload 6, 2) := by decide +kernel
theorem dL_areMirrored_193 : decode cL_areMirrored 193 = .ok (.invokevirtual 51, 3) := by decide +kernel
theorem dL_areMirrored_196 : decode cL_areMirrored 196 = .ok (.if_icmp .ne 7, 3) := by decide +kernel
theorem dL_areMirrored_199 : decode cL_areMirrored 199 = .ok (.iconst 1, 1) := by decide +kernel
theorem dL_areMirrored_200 : decode cL_areMirrored 200 = .ok (.goto 4, 3) := by decide +kernel
theorem dL_areMirrored_203 : decode cL_areMirrored 203 = .ok (.iconst 0, 1) := by decide +kernel
theorem dL_areMirrored_204 : decode cL_areMirrored 204 = .ok (.istore_n 2, 1) := by decide +kernel
theorem dL_areMirrored_205 : decode cL_areMirrored 205 = .ok (.iinc 3 1, 3) := by decide +kernel
theorem dL_areMirrored_208 : decode cL_areMirrored 208 = .ok (.goto (-134), 3) := by decide +kernel
theorem dL_areMirrored_211 : decode cL_areMirrored 211 = .ok (.aload_n 0, 1) := by decide +kernel
theorem dL_areMirrored_212 : decode cL_areMirrored 212 = .ok (.invokevirtual 55, 3) := by decide +kernel
theorem dL_areMirrored_215 : decode cL_areMirrored 215 = .ok (.istore_n 3, 1) := by decide +kernel
theorem dL_areMirrored_216 : decode cL_areMirrored 216 = .ok (.aload_n 1, 1) := by decide +kernel
theorem dL_areMirrored_217 : decode cL_areMirrored 217 = .ok (.invokevirtual 55, 3) := by decide +kernel
theorem dL_areMirrored_220 : decode cL_areMirrored 220 = .ok (.istore 4, 2) := by decide +kernel
theorem dL_areMirrored_222 : decode cL_areMirrored 222 = .ok (.iload_n 2, 1) := by decide +kernel
theorem dL_areMirrored_223 : decode cL_areMirrored 223 = .ok (.ifCond .eq 72, 3) := by decide +kernel
theorem dL_areMirrored_226 : decode cL_areMirrored 226 = .ok (.iload_n 3, 1) := by decide +kernel
theorem dL_areMirrored_227 : decode cL_areMirrored 227 = .ok (.ifCond .ge 7, 3) := by decide +kernel
theorem dL_areMirrored_230 : decode cL_areMirrored 230 = .ok (.iconst 1, 1) := by decide +kernel
theorem dL_areMirrored_231 : decode cL_areMirrored 231 = .ok (.goto 4, 3) := by decide +kernel
theorem dL_areMirrored_234 : decode cL_areMirrored 234 = .ok (.iconst 0, 1) := by decide +kernel
theorem dL_areMirrored_235 : decode cL_areMirrored 235 = .ok (.aload_n 0, 1) := by decide +kernel
theorem dL_areMirrored_236 : decode cL_areMirrored 236 = .ok (.invokevirtual 20, 3) := by decide +kernel
theorem dL_areMirrored_239 : decode cL_areMirrored 239 = .ok (.ifCond .ne 7, 3) := by decide +kernel
theorem dL_areMirrored_242 : decode cL_areMirrored 242 = .ok (.iconst 1, 1) := by decide +kernel
theorem dL_areMirrored_243 : decode cL_areMirrored 243 = .ok (.goto 4, 3) := by decide +kernel
theorem dL_areMirrored_246 : decode cL_areMirrored 246 = .ok (.iconst 0, 1) := by decide +kernel
theorem dL_areMirrored_247 : decode cL_areMirrored 247 = .ok (.if_icmp .ne 48, 3) := by decide +kernel
theorem dL_areMirrored_250 : decode cL_areMirrored 250 = .ok (.iload_n 3, 1) := by decide +kernel
theorem dL_areMirrored_251 : decode cL_areMirrored 251 = .ok (.ifCond .ge 11, 3) := by decide +kernel
theorem dL_areMirrored_254 : decode cL_areMirrored 254 = .ok (.iload 4, 2) := by decide +kernel
theorem dL_areMirrored_256 : decode cL_areMirrored 256 = .ok (.ifCond .ge 39, 3) := by decide +kernel
theorem dL_areMirrored_259 : decode cL_areMirrored 259 = .ok (.goto 32, 3) := by decide +kernel
theorem dL_areMirrored_262 : decode cL_areMirrored 262 = .ok (.iload_n 3, 1) := by decide +kernel
theorem dL_areMirrored_263 : decode cL_areMirrored 263 = .ok (.bipush 12, 2) := by decide +kernel
theorem dL_areMirrored_265 : decode cL_areMirrored 265 = .ok (.idiv, 1) := by decide +kernel
theorem dL_areMirrored_266 : decode cL_areMirrored 266 = .ok (.iload 4, 2) := by decide +kernel
theorem dL_areMirrored_268 : decode cL_areMirrored 268 = .ok (.bipush 12, 2) := by decide +kernel
theorem dL_areMirrored_270 : decode cL_areMirrored 270 = .ok (.idiv, 1) := by decide +kernel
theorem dL_areMirrored_271 : decode cL_areMirrored 271 = .ok (.if_icmp .ne 24, 3) := by decide +kernel
theorem dL_areMirrored_274 : decode cL_areMirrored 274 = .ok (.aload_n 0, 1) := by decide +kernel
theorem dL_areMirrored_275 : decode cL_areMirrored 275 = .ok (.iload_n 3, 1) := by decide +kernel
theorem dL_areMirrored_276 : decode cL_areMirrored 276 = .ok (.bipush 12, 2) := by decide +kernel
theorem dL_areMirrored_278 : decode cL_areMirrored 278 = .ok (.idiv, 1) := by decide +kernel
theorem dL_areMirrored_279 : decode cL_areMirrored 279 = .ok (.iload_n 3, 1) := by decide +kernel
theorem dL_areMirrored_280 : decode cL_areMirrored 280 = .ok (.bipush 12, 2) := by decide +kernel
theorem dL_areMirrored_282 : decode cL_areMirrored 282 = .ok (.irem, 1) := by decide +kernel
theorem dL_areMirrored_283 : decode cL_areMirrored 283 = .ok (.invokevirtual 38, 3) := by decide +kernel
theorem dL_areMirrored_286 : decode cL_areMirrored 286 = .ok (.bipush 35, 2) := by decide +kernel

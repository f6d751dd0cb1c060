theorem dX1_plant_55 : decode cX1_plant 55 = .ok (.getfield 37, 3) := by decide +kernel
theorem dX1_plant_58 : decode cX1_plant 58 = .ok (.iconst 1, 1) := by decide +kernel
theorem dX1_plant_59 : decode cX1_plant 59 = .ok (.iadd, 1) := by decide +kernel
theorem dX1_plant_60 : decode cX1_plant 60 = .ok (.putfield 37, 3) := by decide +kernel
theorem dX1_plant_63 : decode cX1_plant 63 = .ok (.return_, 1) := by decide +kernel
set_option maxRecDepth 20000 in
theorem ggX1_trellis_X1_requireColumn : GoodIn wsX1_trellis wsX1_requireColumn := goodIn_ca (goodIn_r _ [7, 8, 9] (by decide +kernel) (by decide +kernel)) (goodIn_sub (fun _ h => List.mem_cons_of_mem _ (List.mem_append_right _ h)) (by decide +kernel))
set_option maxRecDepth 20000 in
theorem gX1_trellis_X1_requireColumn : GoodIn wsX1_trellis (va_wsS RX1 61 yX1_requireColumn wsX1_requireColumn) := goodIn_app (goodIn_of _ (by decide +kernel)) ggX1_trellis_X1_requireColumn
theorem dX1_trellis_0 : decode cX1_trellis 0 = .ok (.iload_n 1, 1) := by decide +kernel
theorem dX1_trellis_1 : decode cX1_trellis 1 = .ok (.invokestatic 61, 3) := by decide +kernel
theorem dX1_trellis_4 : decode cX1_trellis 4 = .ok (.iload_n 2, 1) := by decide +kernel
theorem dX1_trellis_5 : decode cX1_trellis 5 = .ok (.iconst 1, 1) := by decide +kernel
theorem dX1_trellis_6 : decode cX1_trellis 6 = .ok (.if_icmp .lt 9, 3) := by decide +kernel
theorem dX1_trellis_9 : decode cX1_trellis 9 = .ok (.iload_n 2, 1) := by decide +kernel
theorem dX1_trellis_10 : decode cX1_trellis 10 = .ok (.bipush 8, 2) := by decide +kernel
theorem dX1_trellis_12 : decode cX1_trellis 12 = .ok (.if_icmp .le 13, 3) := by decide +kernel
theorem dX1_trellis_15 : decode cX1_trellis 15 = .ok (.new 49, 3) := by decide +kernel
theorem dX1_trellis_18 : decode cX1_trellis 18 = .ok (.dup, 1) := by decide +kernel
theorem dX1_trellis_19 : decode cX1_trellis 19 = .ok (.ldc 77, 2) := by decide +kernel
theorem dX1_trellis_21 : decode cX1_trellis 21 = .ok (.invokespecial 53, 3) := by decide +kernel
theorem dX1_trellis_24 : decode cX1_trellis 24 = .ok (.athrow, 1) := by decide +kernel
theorem dX1_trellis_25 : decode cX1_trellis 25 = .ok (.aload_n 0, 1) := by decide +kernel
theorem dX1_trellis_26 : decode cX1_trellis 26 = .ok (.getfield 29, 3) := by decide +kernel
theorem dX1_trellis_29 : decode cX1_trellis 29 = .ok (.iload_n 1, 1) := by decide +kernel
theorem dX1_trellis_30 : decode cX1_trellis 30 = .ok (.iaload, 1) := by decide +kernel
theorem dX1_trellis_31 : decode cX1_trellis 31 = .ok (.istore_n 3, 1) := by decide +kernel
theorem dX1_trellis_32 : decode cX1_trellis 32 = .ok (.aload_n 0, 1) := by decide +kernel
theorem dX1_trellis_33 : decode cX1_trellis 33 = .ok (.getfield 29, 3) := by decide +kernel
theorem dX1_trellis_36 : decode cX1_trellis 36 = .ok (.iload_n 1, 1) := by decide +kernel
theorem dX1_trellis_37 : decode cX1_trellis 37 = .ok (.iload_n 2, 1) := by decide +kernel
theorem dX1_trellis_38 : decode cX1_trellis 38 = .ok (.iastore, 1) := by decide +kernel
theorem dX1_trellis_39 : decode cX1_trellis 39 = .ok (.iload_n 3, 1) := by decide +kernel
theorem dX1_trellis_40 : decode cX1_trellis 40 = .ok (.ireturn, 1) := by decide +kernel
set_option maxRecDepth 20000 in
theorem ggX1_cut_X1_requireCell : GoodIn wsX1_cut wsX1_requireCell := goodIn_ca (goodIn_r _ [8, 9, 10, 11, 12, 7, 13] (by decide +kernel) (by decide +kernel)) (goodIn_sub (fun _ h => List.mem_cons_of_mem _ (List.mem_append_right _ h)) (by decide +kernel))
set_option maxRecDepth 20000 in
theorem gX1_cut_X1_requireCell : GoodIn wsX1_cut (va_wsS RX1 79 yX1_requireCell wsX1_requireCell) := goodIn_app (goodIn_of _ (by decide +kernel)) ggX1_cut_X1_requireCell
set_option maxRecDepth 20000 in
theorem ggX1_cut_X0_hasLeafAt : GoodIn wsX1_cut wsX0_hasLeafAt := goodIn_r _ [18, 19, 20, 21, 17, 22, 23, 48, 49] (by decide +kernel) (by decide +kernel)
set_option maxRecDepth 20000 in
theorem gX1_cut_X0_hasLeafAt : GoodIn wsX1_cut (wsV RX1 82 RX0 yX0_hasLeafAt wsX0_hasLeafAt) := goodIn_app (goodIn_of _ (by decide +kernel)) ggX1_cut_X0_hasLeafAt
set_option maxRecDepth 20000 in
theorem ggX1_cut_X1_cutsLeft : GoodIn wsX1_cut wsX1_cutsLeft := goodIn_r _ [27, 4, 37, 38, 39, 40, 41, 42, 43, 44, 45, 46, 47] (by decide +kernel) (by decide +kernel)
set_option maxRecDepth 20000 in
theorem gX1_cut_X1_cutsLeft : GoodIn wsX1_cut (wsV RX1 87 RX1 yX1_cutsLeft wsX1_cutsLeft) := goodIn_app (goodIn_of _ (by decide +kernel)) ggX1_cut_X1_cutsLeft
set_option maxRecDepth 20000 in
theorem ggX1_cut_X0_cutLeaf : GoodIn wsX1_cut wsX0_cutLeaf := goodIn_r _ [31, 32, 33, 34, 35, 17, 36, 23, 12, 7, 13, 48, 49] (by decide +kernel) (by decide +kernel)
set_option maxRecDepth 20000 in
theorem gX1_cut_X0_cutLeaf : GoodIn wsX1_cut (wsV RX1 93 RX0 yX0_cutLeaf wsX0_cutLeaf) := goodIn_app (goodIn_of _ (by decide +kernel)) ggX1_cut_X0_cutLeaf
theorem dX1_cut_0 : decode cX1_cut 0 = .ok (.iload_n 1, 1) := by decide +kernel
theorem dX1_cut_1 : decode cX1_cut 1 = .ok (.iload_n 2, 1) := by decide +kernel
theorem dX1_cut_2 : decode cX1_cut 2 = .ok (.invokestatic 79, 3) := by decide +kernel
theorem dX1_cut_5 : decode cX1_cut 5 = .ok (.aload_n 0, 1) := by decide +kernel
theorem dX1_cut_6 : decode cX1_cut 6 = .ok (.getfield 10, 3) := by decide +kernel
theorem dX1_cut_9 : decode cX1_cut 9 = .ok (.iload_n 1, 1) := by decide +kernel
theorem dX1_cut_10 : decode cX1_cut 10 = .ok (.iload_n 2, 1) := by decide +kernel
theorem dX1_cut_11 : decode cX1_cut 11 = .ok (.invokevirtual 82, 3) := by decide +kernel
theorem dX1_cut_14 : decode cX1_cut 14 = .ok (.ifCond .ne 13, 3) := by decide +kernel
theorem dX1_cut_17 : decode cX1_cut 17 = .ok (.new 56, 3) := by decide +kernel
theorem dX1_cut_20 : decode cX1_cut 20 = .ok (.dup, 1) := by decide +kernel
theorem dX1_cut_21 : decode cX1_cut 21 = .ok (.ldc 85, 2) := by decide +kernel
theorem dX1_cut_23 : decode cX1_cut 23 = .ok (.invokespecial 60, 3) := by decide +kernel
theorem dX1_cut_26 : decode cX1_cut 26 = .ok (.athrow, 1) := by decide +kernel
theorem dX1_cut_27 : decode cX1_cut 27 = .ok (.aload_n 0, 1) := by decide +kernel
theorem dX1_cut_28 : decode cX1_cut 28 = .ok (.invokevirtual 87, 3) := by decide +kernel
theorem dX1_cut_31 : decode cX1_cut 31 = .ok (.ifCond .ne 13, 3) := by decide +kernel
theorem dX1_cut_34 : decode cX1_cut 34 = .ok (.new 56, 3) := by decide +kernel
theorem dX1_cut_37 : decode cX1_cut 37 = .ok (.dup, 1) := by decide +kernel
theorem dX1_cut_38 : decode cX1_cut 38 = .ok (.ldc 91, 2) := by decide +kernel
theorem dX1_cut_40 : decode cX1_cut 40 = .ok (.invokespecial 60, 3) := by decide +kernel
theorem dX1_cut_43 : decode cX1_cut 43 = .ok (.athrow, 1) := by decide +kernel
theorem dX1_cut_44 : decode cX1_cut 44 = .ok (.aload_n 0, 1) := by decide +kernel
theorem dX1_cut_45 : decode cX1_cut 45 = .ok (.getfield 10, 3) := by decide +kernel
theorem dX1_cut_48 : decode cX1_cut 48 = .ok (.iload_n 1, 1) := by decide +kernel
theorem dX1_cut_49 : decode cX1_cut 49 = .ok (.iload_n 2, 1) := by decide +kernel
theorem dX1_cut_50 : decode cX1_cut 50 = .ok (.invokevirtual 93, 3) := by decide +kernel
theorem dX1_cut_53 : decode cX1_cut 53 = .ok (.aload_n 0, 1) := by decide +kernel
theorem dX1_cut_54 : decode cX1_cut 54 = .ok (.dup, 1) := by decide +kernel
theorem dX1_cut_55 : decode cX1_cut 55 = .ok (.getfield 40, 3) := by decide +kernel
theorem dX1_cut_58 : decode cX1_cut 58 = .ok (.iconst 1, 1) := by decide +kernel
theorem dX1_cut_59 : decode cX1_cut 59 = .ok (.iadd, 1) := by decide +kernel
theorem dX1_cut_60 : decode cX1_cut 60 = .ok (.putfield 40, 3) := by decide +kernel
theorem dX1_cut_63 : decode cX1_cut 63 = .ok (.aload_n 0, 1) := by decide +kernel
theorem dX1_cut_64 : decode cX1_cut 64 = .ok (.invokevirtual 87, 3) := by decide +kernel
theorem dX1_cut_67 : decode cX1_cut 67 = .ok (.ireturn, 1) := by decide +kernel
set_option maxRecDepth 20000 in
theorem ggX1_grow_X1_leaves : GoodIn wsX1_grow wsX1_leaves := goodIn_r _ [14, 6, 15, 16, 17, 18, 19, 20, 21, 22, 23, 24, 25, 26, 27, 85, 86, 87, 88, 89, 90, 91, 92, 93, 94, 95, 96, 97] (by decide +kernel) (by decide +kernel)
set_option maxRecDepth 20000 in
theorem gX1_grow_X1_leaves : GoodIn wsX1_grow (wsV RX1 98 RX1 yX1_leaves wsX1_leaves) := goodIn_app (goodIn_of _ (by decide +kernel)) ggX1_grow_X1_leaves
set_option maxRecDepth 20000 in
theorem ggX1_grow_X0_becomeNextOf : GoodIn wsX1_grow wsX0_becomeNextOf := goodIn_r _ [31, 20, 32, 33, 34, 35, 18, 36, 37, 38, 39, 40, 41, 42, 43, 44, 45, 46, 47, 21, 22, 23, 24, 25, 26, 27, 48, 49, 50, 51, 52, 53, 54, 55, 56, 57, 58, 59, 60, 61, 62, 63, 64, 65, 66, 67, 68, 69, 70, 71, 72, 73, 74, 75, 76, 77, 78, 79, 13, 80, 96, 97] (by decide +kernel) (by decide +kernel)
set_option maxRecDepth 20000 in
theorem gX1_grow_X0_becomeNextOf : GoodIn wsX1_grow (wsV RX1 101 RX0 yX0_becomeNextOf wsX0_becomeNextOf) := goodIn_app (goodIn_of _ (by decide +kernel)) ggX1_grow_X0_becomeNextOf
set_option maxRecDepth 20000 in
theorem ggX1_grow_X0_copyFrom : GoodIn wsX1_grow wsX0_copyFrom := goodIn_r _ [84, 20, 32, 96, 97] (by decide +kernel) (by decide +kernel)
set_option maxRecDepth 20000 in
theorem gX1_grow_X0_copyFrom : GoodIn wsX1_grow (wsV RX1 105 RX0 yX0_copyFrom wsX0_copyFrom) := goodIn_app (goodIn_of _ (by decide +kernel)) ggX1_grow_X0_copyFrom
theorem dX1_grow_0 : decode cX1_grow 0 = .ok (.aload_n 0, 1) := by decide +kernel
theorem dX1_grow_1 : decode cX1_grow 1 = .ok (.getfield 43, 3) := by decide +kernel
theorem dX1_grow_4 : decode cX1_grow 4 = .ok (.bipush 60, 2) := by decide +kernel
theorem dX1_grow_6 : decode cX1_grow 6 = .ok (.if_icmp .lt 13, 3) := by decide +kernel
theorem dX1_grow_9 : decode cX1_grow 9 = .ok (.new 56, 3) := by decide +kernel
theorem dX1_grow_12 : decode cX1_grow 12 = .ok (.dup, 1) := by decide +kernel
theorem dX1_grow_13 : decode cX1_grow 13 = .ok (.ldc 96, 2) := by decide +kernel
theorem dX1_grow_15 : decode cX1_grow 15 = .ok (.invokespecial 60, 3) := by decide +kernel
theorem dX1_grow_18 : decode cX1_grow 18 = .ok (.athrow, 1) := by decide +kernel
theorem dX1_grow_19 : decode cX1_grow 19 = .ok (.aload_n 0, 1) := by decide +kernel
theorem dX1_grow_20 : decode cX1_grow 20 = .ok (.invokevirtual 98, 3) := by decide +kernel
theorem dX1_grow_23 : decode cX1_grow 23 = .ok (.istore_n 1, 1) := by decide +kernel
theorem dX1_grow_24 : decode cX1_grow 24 = .ok (.aload_n 0, 1) := by decide +kernel
theorem dX1_grow_25 : decode cX1_grow 25 = .ok (.dup, 1) := by decide +kernel
theorem dX1_grow_26 : decode cX1_grow 26 = .ok (.getfield 46, 3) := by decide +kernel
theorem dX1_grow_29 : decode cX1_grow 29 = .ok (.aload_n 0, 1) := by decide +kernel
theorem dX1_grow_30 : decode cX1_grow 30 = .ok (.getfield 19, 3) := by decide +kernel
theorem dX1_grow_33 : decode cX1_grow 33 = .ok (.aload_n 0, 1) := by decide +kernel
theorem dX1_grow_34 : decode cX1_grow 34 = .ok (.getfield 10, 3) := by decide +kernel
theorem dX1_grow_37 : decode cX1_grow 37 = .ok (.aload_n 0, 1) := by decide +kernel
theorem dX1_grow_38 : decode cX1_grow 38 = .ok (.getfield 33, 3) := by decide +kernel
theorem dX1_grow_41 : decode cX1_grow 41 = .ok (.aload_n 0, 1) := by decide +kernel
theorem dX1_grow_42 : decode cX1_grow 42 = .ok (.getfield 29, 3) := by decide +kernel
theorem dX1_grow_45 : decode cX1_grow 45 = .ok (.invokevirtual 101, 3) := by decide +kernel
theorem dX1_grow_48 : decode cX1_grow 48 = .ok (.iadd, 1) := by decide +kernel
theorem dX1_grow_49 : decode cX1_grow 49 = .ok (.putfield 46, 3) := by decide +kernel
theorem dX1_grow_52 : decode cX1_grow 52 = .ok (.aload_n 0, 1) := by decide +kernel
theorem dX1_grow_53 : decode cX1_grow 53 = .ok (.getfield 10, 3) := by decide +kernel
theorem dX1_grow_56 : decode cX1_grow 56 = .ok (.aload_n 0, 1) := by decide +kernel
theorem dX1_grow_57 : decode cX1_grow 57 = .ok (.getfield 19, 3) := by decide +kernel
theorem dX1_grow_60 : decode cX1_grow 60 = .ok (.invokevirtual 105, 3) := by decide +kernel
theorem dX1_grow_63 : decode cX1_grow 63 = .ok (.aload_n 0, 1) := by decide +kernel
theorem dX1_grow_64 : decode cX1_grow 64 = .ok (.dup, 1) := by decide +kernel
theorem dX1_grow_65 : decode cX1_grow 65 = .ok (.getfield 43, 3) := by decide +kernel
theorem dX1_grow_68 : decode cX1_grow 68 = .ok (.iconst 1, 1) := by decide +kernel
theorem dX1_grow_69 : decode cX1_grow 69 = .ok (.iadd, 1) := by decide +kernel
theorem dX1_grow_70 : decode cX1_grow 70 = .ok (.putfield 43, 3) := by decide +kernel
theorem dX1_grow_73 : decode cX1_grow 73 = .ok (.aload_n 0, 1) := by decide +kernel
theorem dX1_grow_74 : decode cX1_grow 74 = .ok (.iconst 0, 1) := by decide +kernel
theorem dX1_grow_75 : decode cX1_grow 75 = .ok (.putfield 40, 3) := by decide +kernel
theorem dX1_grow_78 : decode cX1_grow 78 = .ok (.aload_n 0, 1) := by decide +kernel
theorem dX1_grow_79 : decode cX1_grow 79 = .ok (.invokevirtual 98, 3) := by decide +kernel
theorem dX1_grow_82 : decode cX1_grow 82 = .ok (.iload_n 1, 1) := by decide +kernel
theorem dX1_grow_83 : decode cX1_grow 83 = .ok (.isub, 1) := by decide +kernel
theorem dX1_grow_84 : decode cX1_grow 84 = .ok (.ireturn, 1) := by decide +kernel
set_option maxRecDepth 20000 in
theorem ggX1_look_X1_requireCell : GoodIn wsX1_look wsX1_requireCell := goodIn_ca (goodIn_r _ [5, 6, 7, 8, 9, 4, 10] (by decide +kernel) (by decide +kernel)) (goodIn_sub (fun _ h => List.mem_cons_of_mem _ (List.mem_append_right _ h)) (by decide +kernel))
set_option maxRecDepth 20000 in
theorem gX1_look_X1_requireCell : GoodIn wsX1_look (va_wsS RX1 79 yX1_requireCell wsX1_requireCell) := goodIn_app (goodIn_of _ (by decide +kernel)) ggX1_look_X1_requireCell
set_option maxRecDepth 20000 in
theorem ggX1_look_X0_hasLeafAt : GoodIn wsX1_look wsX0_hasLeafAt := goodIn_r _ [15, 16, 17, 18, 14, 19, 20, 42, 43] (by decide +kernel) (by decide +kernel)
set_option maxRecDepth 20000 in
theorem gX1_look_X0_hasLeafAt : GoodIn wsX1_look (wsV RX1 82 RX0 yX0_hasLeafAt wsX0_hasLeafAt) := goodIn_app (goodIn_of _ (by decide +kernel)) ggX1_look_X0_hasLeafAt
set_option maxRecDepth 20000 in
theorem ggX1_look_X0_isBareAt : GoodIn wsX1_look wsX0_isBareAt := goodIn_r _ [24, 25, 12, 13, 14, 15, 16, 17, 18, 19, 20, 26, 27, 28, 29, 30, 42, 43] (by decide +kernel) (by decide +kernel)
set_option maxRecDepth 20000 in
theorem gX1_look_X0_isBareAt : GoodIn wsX1_look (wsV RX1 65 RX0 yX0_isBareAt wsX0_isBareAt) := goodIn_app (goodIn_of _ (by decide +kernel)) ggX1_look_X0_isBareAt
theorem dX1_look_0 : decode cX1_look 0 = .ok (.iload_n 1, 1) := by decide +kernel
theorem dX1_look_1 : decode cX1_look 1 = .ok (.iload_n 2, 1) := by decide +kernel
theorem dX1_look_2 : decode cX1_look 2 = .ok (.invokestatic 79, 3) := by decide +kernel
theorem dX1_look_5 : decode cX1_look 5 = .ok (.aload_n 0, 1) := by decide +kernel
theorem dX1_look_6 : decode cX1_look 6 = .ok (.getfield 10, 3) := by decide +kernel
theorem dX1_look_9 : decode cX1_look 9 = .ok (.iload_n 1, 1) := by decide +kernel
theorem dX1_look_10 : decode cX1_look 10 = .ok (.iload_n 2, 1) := by decide +kernel
theorem dX1_look_11 : decode cX1_look 11 = .ok (.invokevirtual 82, 3) := by decide +kernel
theorem dX1_look_14 : decode cX1_look 14 = .ok (.ifCond .eq 6, 3) := by decide +kernel
theorem dX1_look_17 : decode cX1_look 17 = .ok (.bipush 35, 2) := by decide +kernel
theorem dX1_look_19 : decode cX1_look 19 = .ok (.ireturn, 1) := by decide +kernel
theorem dX1_look_20 : decode cX1_look 20 = .ok (.aload_n 0, 1) := by decide +kernel
theorem dX1_look_21 : decode cX1_look 21 = .ok (.getfield 10, 3) := by decide +kernel
theorem dX1_look_24 : decode cX1_look 24 = .ok (.iload_n 1, 1) := by decide +kernel
theorem dX1_look_25 : decode cX1_look 25 = .ok (.iload_n 2, 1) := by decide +kernel
theorem dX1_look_26 : decode cX1_look 26 = .ok (.invokevirtual 65, 3) := by decide +kernel
theorem dX1_look_29 : decode cX1_look 29 = .ok (.ifCond .eq 8, 3) := by decide +kernel
theorem dX1_look_32 : decode cX1_look 32 = .ok (.bipush 46, 2) := by decide +kernel
theorem dX1_look_34 : decode cX1_look 34 = .ok (.goto 5, 3) := by decide +kernel
theorem dX1_look_37 : decode cX1_look 37 = .ok (.bipush 120, 2) := by decide +kernel
theorem dX1_look_39 : decode cX1_look 39 = .ok (.ireturn, 1) := by decide +kernel
set_option maxRecDepth 20000 in
theorem ggX1_shadeOf_X1_requireCell : GoodIn wsX1_shadeOf wsX1_requireCell := goodIn_ca (goodIn_r _ [5, 6, 7, 8, 9, 4, 10] (by decide +kernel) (by decide +kernel)) (goodIn_sub (fun _ h => List.mem_cons_of_mem _ (List.mem_append_right _ h)) (by decide +kernel))
set_option maxRecDepth 20000 in
theorem gX1_shadeOf_X1_requireCell : GoodIn wsX1_shadeOf (va_wsS RX1 79 yX1_requireCell wsX1_requireCell) := goodIn_app (goodIn_of _ (by decide +kernel)) ggX1_shadeOf_X1_requireCell
set_option maxRecDepth 20000 in
theorem ggX1_shadeOf_X0_shadeAt : GoodIn wsX1_shadeOf wsX0_shadeAt := goodIn_r _ [15, 16, 17, 18, 14, 19, 20, 32, 33] (by decide +kernel) (by decide +kernel)
set_option maxRecDepth 20000 in
theorem gX1_shadeOf_X0_shadeAt : GoodIn wsX1_shadeOf (wsV RX1 109 RX0 yX0_shadeAt wsX0_shadeAt) := goodIn_app (goodIn_of _ (by decide +kernel)) ggX1_shadeOf_X0_shadeAt
theorem dX1_shadeOf_0 : decode cX1_shadeOf 0 = .ok (.iload_n 1, 1) := by decide +kernel
theorem dX1_shadeOf_1 : decode cX1_shadeOf 1 = .ok (.iload_n 2, 1) := by decide +kernel
theorem dX1_shadeOf_2 : decode cX1_shadeOf 2 = .ok (.invokestatic 79, 3) := by decide +kernel
theorem dX1_shadeOf_5 : decode cX1_shadeOf 5 = .ok (.aload_n 0, 1) := by decide +kernel
theorem dX1_shadeOf_6 : decode cX1_shadeOf 6 = .ok (.getfield 10, 3) := by decide +kernel
theorem dX1_shadeOf_9 : decode cX1_shadeOf 9 = .ok (.iload_n 1, 1) := by decide +kernel
theorem dX1_shadeOf_10 : decode cX1_shadeOf 10 = .ok (.iload_n 2, 1) := by decide +kernel
theorem dX1_shadeOf_11 : decode cX1_shadeOf 11 = .ok (.invokevirtual 109, 3) := by decide +kernel
theorem dX1_shadeOf_14 : decode cX1_shadeOf 14 = .ok (.ireturn, 1) := by decide +kernel
set_option maxRecDepth 20000 in
theorem ggX1_holdersOf_X1_requireCell : GoodIn wsX1_holdersOf wsX1_requireCell := goodIn_ca (goodIn_r _ [6, 7, 8, 9, 10, 5, 11] (by decide +kernel) (by decide +kernel)) (goodIn_sub (fun _ h => List.mem_cons_of_mem _ (List.mem_append_right _ h)) (by decide +kernel))
set_option maxRecDepth 20000 in
theorem gX1_holdersOf_X1_requireCell : GoodIn wsX1_holdersOf (va_wsS RX1 79 yX1_requireCell wsX1_requireCell) := goodIn_app (goodIn_of _ (by decide +kernel)) ggX1_holdersOf_X1_requireCell
set_option maxRecDepth 20000 in
theorem ggX1_holdersOf_X0_holdersAt : GoodIn wsX1_holdersOf wsX0_holdersAt := goodIn_r _ [16, 17, 18, 19, 15, 20, 21, 22, 23, 24, 25, 26, 27, 28, 29, 30, 31, 32, 33, 34, 35, 47, 48] (by decide +kernel) (by decide +kernel)
set_option maxRecDepth 20000 in
theorem gX1_holdersOf_X0_holdersAt : GoodIn wsX1_holdersOf (wsV RX1 113 RX0 yX0_holdersAt wsX0_holdersAt) := goodIn_app (goodIn_of _ (by decide +kernel)) ggX1_holdersOf_X0_holdersAt
theorem dX1_holdersOf_0 : decode cX1_holdersOf 0 = .ok (.iload_n 1, 1) := by decide +kernel
theorem dX1_holdersOf_1 : decode cX1_holdersOf 1 = .ok (.iload_n 2, 1) := by decide +kernel
theorem dX1_holdersOf_2 : decode cX1_holdersOf 2 = .ok (.invokestatic 79, 3) := by decide +kernel
theorem dX1_holdersOf_5 : decode cX1_holdersOf 5 = .ok (.aload_n 0, 1) := by decide +kernel
theorem dX1_holdersOf_6 : decode cX1_holdersOf 6 = .ok (.getfield 10, 3) := by decide +kernel
theorem dX1_holdersOf_9 : decode cX1_holdersOf 9 = .ok (.iload_n 1, 1) := by decide +kernel
theorem dX1_holdersOf_10 : decode cX1_holdersOf 10 = .ok (.iload_n 2, 1) := by decide +kernel
theorem dX1_holdersOf_11 : decode cX1_holdersOf 11 = .ok (.aload_n 0, 1) := by decide +kernel
theorem dX1_holdersOf_12 : decode cX1_holdersOf 12 = .ok (.getfield 33, 3) := by decide +kernel
theorem dX1_holdersOf_15 : decode cX1_holdersOf 15 = .ok (.invokevirtual 113, 3) := by decide +kernel
theorem dX1_holdersOf_18 : decode cX1_holdersOf 18 = .ok (.ireturn, 1) := by decide +kernel
set_option maxRecDepth 20000 in
theorem ggX1_neighboursOf_X1_requireCell : GoodIn wsX1_neighboursOf wsX1_requireCell := goodIn_ca (goodIn_r _ [6, 7, 8, 9, 10, 5, 11] (by decide +kernel) (by decide +kernel)) (goodIn_sub (fun _ h => List.mem_cons_of_mem _ (List.mem_append_right _ h)) (by decide +kernel))
set_option maxRecDepth 20000 in
theorem gX1_neighboursOf_X1_requireCell : GoodIn wsX1_neighboursOf (va_wsS RX1 79 yX1_requireCell wsX1_requireCell) := goodIn_app (goodIn_of _ (by decide +kernel)) ggX1_neighboursOf_X1_requireCell
set_option maxRecDepth 20000 in
theorem ggX1_neighboursOf_X0_neighboursAt : GoodIn wsX1_neighboursOf wsX0_neighboursAt := goodIn_r _ [16, 17, 18, 19, 15, 20, 21, 22, 23, 24, 25, 26, 27, 28, 29, 30, 31, 32, 33, 34, 35, 47, 48] (by decide +kernel) (by decide +kernel)
set_option maxRecDepth 20000 in
theorem gX1_neighboursOf_X0_neighboursAt : GoodIn wsX1_neighboursOf (wsV RX1 117 RX0 yX0_neighboursAt wsX0_neighboursAt) := goodIn_app (goodIn_of _ (by decide +kernel)) ggX1_neighboursOf_X0_neighboursAt
theorem dX1_neighboursOf_0 : decode cX1_neighboursOf 0 = .ok (.iload_n 1, 1) := by decide +kernel
theorem dX1_neighboursOf_1 : decode cX1_neighboursOf 1 = .ok (.iload_n 2, 1) := by decide +kernel
theorem dX1_neighboursOf_2 : decode cX1_neighboursOf 2 = .ok (.invokestatic 79, 3) := by decide +kernel
theorem dX1_neighboursOf_5 : decode cX1_neighboursOf 5 = .ok (.aload_n 0, 1) := by decide +kernel
theorem dX1_neighboursOf_6 : decode cX1_neighboursOf 6 = .ok (.getfield 10, 3) := by decide +kernel
theorem dX1_neighboursOf_9 : decode cX1_neighboursOf 9 = .ok (.iload_n 1, 1) := by decide +kernel
theorem dX1_neighboursOf_10 : decode cX1_neighboursOf 10 = .ok (.iload_n 2, 1) := by decide +kernel
theorem dX1_neighboursOf_11 : decode cX1_neighboursOf 11 = .ok (.aload_n 0, 1) := by decide +kernel
theorem dX1_neighboursOf_12 : decode cX1_neighboursOf 12 = .ok (.getfield 33, 3) := by decide +kernel
theorem dX1_neighboursOf_15 : decode cX1_neighboursOf 15 = .ok (.invokevirtual 117, 3) := by decide +kernel
theorem dX1_neighboursOf_18 : decode cX1_neighboursOf 18 = .ok (.ireturn, 1) := by decide +kernel
set_option maxRecDepth 20000 in
theorem ggX1_leavesIn_X1_requireColumn : GoodIn wsX1_leavesIn wsX1_requireColumn := goodIn_ca (goodIn_r _ [5, 6, 7] (by decide +kernel) (by decide +kernel)) (goodIn_sub (fun _ h => List.mem_cons_of_mem _ (List.mem_append_right _ h)) (by decide +kernel))
set_option maxRecDepth 20000 in
theorem gX1_leavesIn_X1_requireColumn : GoodIn wsX1_leavesIn (va_wsS RX1 61 yX1_requireColumn wsX1_requireColumn) := goodIn_app (goodIn_of _ (by decide +kernel)) ggX1_leavesIn_X1_requireColumn
set_option maxRecDepth 20000 in
theorem ggX1_leavesIn_X0_countInColumn : GoodIn wsX1_leavesIn wsX0_countInColumn := goodIn_r _ [12, 13, 14, 15, 11, 16, 17, 18, 19, 20, 21, 33, 34] (by decide +kernel) (by decide +kernel)
set_option maxRecDepth 20000 in
theorem gX1_leavesIn_X0_countInColumn : GoodIn wsX1_leavesIn (wsV RX1 120 RX0 yX0_countInColumn wsX0_countInColumn) := goodIn_app (goodIn_of _ (by decide +kernel)) ggX1_leavesIn_X0_countInColumn
theorem dX1_leavesIn_0 : decode cX1_leavesIn 0 = .ok (.iload_n 1, 1) := by decide +kernel
theorem dX1_leavesIn_1 : decode cX1_leavesIn 1 = .ok (.invokestatic 61, 3) := by decide +kernel
theorem dX1_leavesIn_4 : decode cX1_leavesIn 4 = .ok (.aload_n 0, 1) := by decide +kernel
theorem dX1_leavesIn_5 : decode cX1_leavesIn 5 = .ok (.getfield 10, 3) := by decide +kernel
theorem dX1_leavesIn_8 : decode cX1_leavesIn 8 = .ok (.iload_n 1, 1) := by decide +kernel
theorem dX1_leavesIn_9 : decode cX1_leavesIn 9 = .ok (.invokevirtual 120, 3) := by decide +kernel
theorem dX1_leavesIn_12 : decode cX1_leavesIn 12 = .ok (.ireturn, 1) := by decide +kernel
set_option maxRecDepth 20000 in
theorem ggX1_leaves_X0_countLeaves : GoodIn wsX1_leaves wsX0_countLeaves := goodIn_r _ [6, 7, 8, 9, 10, 11, 12, 13, 14, 26, 27] (by decide +kernel) (by decide +kernel)
set_option maxRecDepth 20000 in
theorem gX1_leaves_X0_countLeaves : GoodIn wsX1_leaves (wsV RX1 124 RX0 yX0_countLeaves wsX0_countLeaves) := goodIn_app (goodIn_of _ (by decide +kernel)) ggX1_leaves_X0_countLeaves
theorem dX1_leaves_0 : decode cX1_leaves 0 = .ok (.aload_n 0, 1) := by decide +kernel
theorem dX1_leaves_1 : decode cX1_leaves 1 = .ok (.getfield 10, 3) := by decide +kernel
theorem dX1_leaves_4 : decode cX1_leaves 4 = .ok (.invokevirtual 124, 3) := by decide +kernel
theorem dX1_leaves_7 : decode cX1_leaves 7 = .ok (.ireturn, 1) := by decide +kernel
set_option maxRecDepth 20000 in
theorem ggX1_lit_X0_countLit : GoodIn wsX1_lit wsX0_countLit := goodIn_r _ [6, 7, 8, 9, 10, 11, 12, 13, 14, 26, 27] (by decide +kernel) (by decide +kernel)
set_option maxRecDepth 20000 in
theorem gX1_lit_X0_countLit : GoodIn wsX1_lit (wsV RX1 127 RX0 yX0_countLit wsX0_countLit) := goodIn_app (goodIn_of _ (by decide +kernel)) ggX1_lit_X0_countLit
theorem dX1_lit_0 : decode cX1_lit 0 = .ok (.aload_n 0, 1) := by decide +kernel
theorem dX1_lit_1 : decode cX1_lit 1 = .ok (.getfield 10, 3) := by decide +kernel
theorem dX1_lit_4 : decode cX1_lit 4 = .ok (.invokevirtual 127, 3) := by decide +kernel
theorem dX1_lit_7 : decode cX1_lit 7 = .ok (.ireturn, 1) := by decide +kernel
theorem dX1_generation_0 : decode cX1_generation 0 = .ok (.aload_n 0, 1) := by decide +kernel
theorem dX1_generation_1 : decode cX1_generation 1 = .ok (.getfield 43, 3) := by decide +kernel
theorem dX1_generation_4 : decode cX1_generation 4 = .ok (.ireturn, 1) := by decide +kernel
theorem dX1_cutsLeft_0 : decode cX1_cutsLeft 0 = .ok (.iconst 3, 1) := by decide +kernel
theorem dX1_cutsLeft_1 : decode cX1_cutsLeft 1 = .ok (.aload_n 0, 1) := by decide +kernel
theorem dX1_cutsLeft_2 : decode cX1_cutsLeft 2 = .ok (.getfield 40, 3) := by decide +kernel
theorem dX1_cutsLeft_5 : decode cX1_cutsLeft 5 = .ok (.isub, 1) := by decide +kernel
theorem dX1_cutsLeft_6 : decode cX1_cutsLeft 6 = .ok (.ireturn, 1) := by decide +kernel
theorem dX1_broken_0 : decode cX1_broken 0 = .ok (.aload_n 0, 1) := by decide +kernel
theorem dX1_broken_1 : decode cX1_broken 1 = .ok (.getfield 46, 3) := by decide +kernel
theorem dX1_broken_4 : decode cX1_broken 4 = .ok (.ireturn, 1) := by decide +kernel
set_option maxRecDepth 20000 in
theorem ggX1_leavesNext_X0_becomeNextOf : GoodIn wsX1_leavesNext wsX0_becomeNextOf := goodIn_r _ [9, 10, 11, 12, 13, 14, 8, 15, 16, 17, 18, 19, 20, 21, 22, 23, 24, 25, 26, 27, 28, 29, 30, 31, 32, 33, 34, 35, 36, 37, 38, 39, 40, 41, 42, 43, 44, 45, 46, 47, 48, 49, 50, 51, 52, 53, 54, 55, 56, 57, 58, 59, 60, 61, 62, 63, 64, 65, 66, 67, 83, 84] (by decide +kernel) (by decide +kernel)
set_option maxRecDepth 20000 in
theorem gX1_leavesNext_X0_becomeNextOf : GoodIn wsX1_leavesNext (wsV RX1 101 RX0 yX0_becomeNextOf wsX0_becomeNextOf) := goodIn_app (goodIn_of _ (by decide +kernel)) ggX1_leavesNext_X0_becomeNextOf
set_option maxRecDepth 20000 in
theorem ggX1_leavesNext_X0_countLeaves : GoodIn wsX1_leavesNext wsX0_countLeaves := goodIn_r _ [71, 10, 27, 28, 29, 30, 31, 32, 33, 83, 84] (by decide +kernel) (by decide +kernel)
set_option maxRecDepth 20000 in
theorem gX1_leavesNext_X0_countLeaves : GoodIn wsX1_leavesNext (wsV RX1 124 RX0 yX0_countLeaves wsX0_countLeaves) := goodIn_app (goodIn_of _ (by decide +kernel)) ggX1_leavesNext_X0_countLeaves
theorem dX1_leavesNext_0 : decode cX1_leavesNext 0 = .ok (.aload_n 0, 1) := by decide +kernel
theorem dX1_leavesNext_1 : decode cX1_leavesNext 1 = .ok (.getfield 19, 3) := by decide +kernel
theorem dX1_leavesNext_4 : decode cX1_leavesNext 4 = .ok (.aload_n 0, 1) := by decide +kernel
theorem dX1_leavesNext_5 : decode cX1_leavesNext 5 = .ok (.getfield 10, 3) := by decide +kernel
theorem dX1_leavesNext_8 : decode cX1_leavesNext 8 = .ok (.aload_n 0, 1) := by decide +kernel
theorem dX1_leavesNext_9 : decode cX1_leavesNext 9 = .ok (.getfield 33, 3) := by decide +kernel
theorem dX1_leavesNext_12 : decode cX1_leavesNext 12 = .ok (.aload_n 0, 1) := by decide +kernel
theorem dX1_leavesNext_13 : decode cX1_leavesNext 13 = .ok (.getfield 29, 3) := by decide +kernel
theorem dX1_leavesNext_16 : decode cX1_leavesNext 16 = .ok (.invokevirtual 101, 3) := by decide +kernel
theorem dX1_leavesNext_19 : decode cX1_leavesNext 19 = .ok (.pop, 1) := by decide +kernel
theorem dX1_leavesNext_20 : decode cX1_leavesNext 20 = .ok (.aload_n 0, 1) := by decide +kernel
theorem dX1_leavesNext_21 : decode cX1_leavesNext 21 = .ok (.getfield 19, 3) := by decide +kernel
theorem dX1_leavesNext_24 : decode cX1_leavesNext 24 = .ok (.invokevirtual 124, 3) := by decide +kernel
theorem dX1_leavesNext_27 : decode cX1_leavesNext 27 = .ok (.ireturn, 1) := by decide +kernel
set_option maxRecDepth 20000 in
theorem ggX1_repeatsIn_X0_hasCuts : GoodIn wsX1_repeatsIn wsX0_hasCuts := goodIn_r _ [10, 11, 102, 103] (by decide +kernel) (by decide +kernel)
set_option maxRecDepth 20000 in
theorem gX1_repeatsIn_X0_hasCuts : GoodIn wsX1_repeatsIn (wsV RX1 130 RX0 yX0_hasCuts wsX0_hasCuts) := goodIn_app (goodIn_of _ (by decide +kernel)) ggX1_repeatsIn_X0_hasCuts
set_option maxRecDepth 20000 in
theorem ggX1_repeatsIn_X0_copyFrom : GoodIn wsX1_repeatsIn wsX0_copyFrom := goodIn_r _ [15, 16, 11, 102, 103] (by decide +kernel) (by decide +kernel)
set_option maxRecDepth 20000 in
theorem gX1_repeatsIn_X0_copyFrom : GoodIn wsX1_repeatsIn (wsV RX1 105 RX0 yX0_copyFrom wsX0_copyFrom) := goodIn_app (goodIn_of _ (by decide +kernel)) ggX1_repeatsIn_X0_copyFrom
set_option maxRecDepth 20000 in
theorem ggX1_repeatsIn_X1_remember : GoodIn wsX1_repeatsIn wsX1_remember := goodIn_r _ [21, 22, 2, 23, 24, 25, 26, 9, 27, 28, 29, 30, 31, 16, 91, 92, 93, 94, 95, 96, 97, 98, 99, 100, 101, 102, 103] (by decide +kernel) (by decide +kernel)
set_option maxRecDepth 20000 in
theorem gX1_repeatsIn_X1_remember : GoodIn wsX1_repeatsIn (wsV RX1 134 RX1 yX1_remember wsX1_remember) := goodIn_app (goodIn_of _ (by decide +kernel)) ggX1_repeatsIn_X1_remember
set_option maxRecDepth 20000 in
theorem ggX1_repeatsIn_X0_becomeNextOf : GoodIn wsX1_repeatsIn wsX0_becomeNextOf := goodIn_r _ [35, 16, 11, 36, 37, 38, 9, 39, 28, 29, 30, 31, 40, 41, 42, 43, 44, 45, 46, 47, 48, 49, 50, 51, 52, 53, 54, 55, 56, 57, 58, 59, 60, 61, 62, 63, 64, 65, 66, 67, 68, 69, 70, 71, 72, 73, 74, 75, 76, 77, 78, 79, 80, 81, 82, 83, 84, 85, 20, 86, 102, 103] (by decide +kernel) (by decide +kernel)
set_option maxRecDepth 20000 in
theorem gX1_repeatsIn_X0_becomeNextOf : GoodIn wsX1_repeatsIn (wsV RX1 101 RX0 yX0_becomeNextOf wsX0_becomeNextOf) := goodIn_app (goodIn_of _ (by decide +kernel)) ggX1_repeatsIn_X0_becomeNextOf
set_option maxRecDepth 20000 in
theorem ggX1_repeatsIn_X1_looksAsBefore : GoodIn wsX1_repeatsIn wsX1_looksAsBefore := goodIn_r _ [90, 22, 23, 91, 92, 93, 94, 95, 96, 97, 98, 99, 100, 101] (by decide +kernel) (by decide +kernel)
set_option maxRecDepth 20000 in
theorem gX1_repeatsIn_X1_looksAsBefore : GoodIn wsX1_repeatsIn (wsV RX1 137 RX1 yX1_looksAsBefore wsX1_looksAsBefore) := goodIn_app (goodIn_of _ (by decide +kernel)) ggX1_repeatsIn_X1_looksAsBefore
theorem dX1_repeatsIn_0 : decode cX1_repeatsIn 0 = .ok (.aload_n 0, 1) := by decide +kernel
theorem dX1_repeatsIn_1 : decode cX1_repeatsIn 1 = .ok (.getfield 10, 3) := by decide +kernel
theorem dX1_repeatsIn_4 : decode cX1_repeatsIn 4 = .ok (.invokevirtual 130, 3) := by decide +kernel
theorem dX1_repeatsIn_7 : decode cX1_repeatsIn 7 = .ok (.ifCond .eq 7, 3) := by decide +kernel
theorem dX1_repeatsIn_10 : decode cX1_repeatsIn 10 = .ok (.iconst 1, 1) := by decide +kernel
theorem dX1_repeatsIn_11 : decode cX1_repeatsIn 11 = .ok (.goto 4, 3) := by decide +kernel
theorem dX1_repeatsIn_14 : decode cX1_repeatsIn 14 = .ok (.iconst 0, 1) := by decide +kernel
theorem dX1_repeatsIn_15 : decode cX1_repeatsIn 15 = .ok (.istore_n 1, 1) := by decide +kernel
theorem dX1_repeatsIn_16 : decode cX1_repeatsIn 16 = .ok (.aload_n 0, 1) := by decide +kernel
theorem dX1_repeatsIn_17 : decode cX1_repeatsIn 17 = .ok (.getfield 16, 3) := by decide +kernel
theorem dX1_repeatsIn_20 : decode cX1_repeatsIn 20 = .ok (.aload_n 0, 1) := by decide +kernel
theorem dX1_repeatsIn_21 : decode cX1_repeatsIn 21 = .ok (.getfield 10, 3) := by decide +kernel
theorem dX1_repeatsIn_24 : decode cX1_repeatsIn 24 = .ok (.invokevirtual 105, 3) := by decide +kernel
theorem dX1_repeatsIn_27 : decode cX1_repeatsIn 27 = .ok (.aload_n 0, 1) := by decide +kernel
theorem dX1_repeatsIn_28 : decode cX1_repeatsIn 28 = .ok (.iconst 0, 1) := by decide +kernel
theorem dX1_repeatsIn_29 : decode cX1_repeatsIn 29 = .ok (.invokevirtual 134, 3) := by decide +kernel
theorem dX1_repeatsIn_32 : decode cX1_repeatsIn 32 = .ok (.iconst 1, 1) := by decide +kernel
theorem dX1_repeatsIn_33 : decode cX1_repeatsIn 33 = .ok (.istore_n 2, 1) := by decide +kernel
theorem dX1_repeatsIn_34 : decode cX1_repeatsIn 34 = .ok (.iload_n 2, 1) := by decide +kernel
theorem dX1_repeatsIn_35 : decode cX1_repeatsIn 35 = .ok (.bipush 60, 2) := by decide +kernel
theorem dX1_repeatsIn_37 : decode cX1_repeatsIn 37 = .ok (.if_icmp .gt 56, 3) := by decide +kernel
theorem dX1_repeatsIn_40 : decode cX1_repeatsIn 40 = .ok (.aload_n 0, 1) := by decide +kernel
theorem dX1_repeatsIn_41 : decode cX1_repeatsIn 41 = .ok (.getfield 19, 3) := by decide +kernel
theorem dX1_repeatsIn_44 : decode cX1_repeatsIn 44 = .ok (.aload_n 0, 1) := by decide +kernel
theorem dX1_repeatsIn_45 : decode cX1_repeatsIn 45 = .ok (.getfield 16, 3) := by decide +kernel
theorem dX1_repeatsIn_48 : decode cX1_repeatsIn 48 = .ok (.aload_n 0, 1) := by decide +kernel
theorem dX1_repeatsIn_49 : decode cX1_repeatsIn 49 = .ok (.getfield 33, 3) := by decide +kernel
theorem dX1_repeatsIn_52 : decode cX1_repeatsIn 52 = .ok (.aload_n 0, 1) := by decide +kernel
theorem dX1_repeatsIn_53 : decode cX1_repeatsIn 53 = .ok (.getfield 29, 3) := by decide +kernel
theorem dX1_repeatsIn_56 : decode cX1_repeatsIn 56 = .ok (.invokevirtual 101, 3) := by decide +kernel
theorem dX1_repeatsIn_59 : decode cX1_repeatsIn 59 = .ok (.pop, 1) := by decide +kernel
theorem dX1_repeatsIn_60 : decode cX1_repeatsIn 60 = .ok (.aload_n 0, 1) := by decide +kernel
theorem dX1_repeatsIn_61 : decode cX1_repeatsIn 61 = .ok (.getfield 16, 3) := by decide +kernel
theorem dX1_repeatsIn_64 : decode cX1_repeatsIn 64 = .ok (.aload_n 0, 1) := by decide +kernel
theorem dX1_repeatsIn_65 : decode cX1_repeatsIn 65 = .ok (.getfield 19, 3) := by decide +kernel
theorem dX1_repeatsIn_68 : decode cX1_repeatsIn 68 = .ok (.invokevirtual 105, 3) := by decide +kernel
theorem dX1_repeatsIn_71 : decode cX1_repeatsIn 71 = .ok (.aload_n 0, 1) := by decide +kernel
theorem dX1_repeatsIn_72 : decode cX1_repeatsIn 72 = .ok (.iload_n 2, 1) := by decide +kernel
theorem dX1_repeatsIn_73 : decode cX1_repeatsIn 73 = .ok (.invokevirtual 134, 3) := by decide +kernel
theorem dX1_repeatsIn_76 : decode cX1_repeatsIn 76 = .ok (.aload_n 0, 1) := by decide +kernel
theorem dX1_repeatsIn_77 : decode cX1_repeatsIn 77 = .ok (.iload_n 2, 1) := by decide +kernel
theorem dX1_repeatsIn_78 : decode cX1_repeatsIn 78 = .ok (.iload_n 1, 1) := by decide +kernel
theorem dX1_repeatsIn_79 : decode cX1_repeatsIn 79 = .ok (.invokevirtual 137, 3) := by decide +kernel
theorem dX1_repeatsIn_82 : decode cX1_repeatsIn 82 = .ok (.ifCond .eq 5, 3) := by decide +kernel
theorem dX1_repeatsIn_85 : decode cX1_repeatsIn 85 = .ok (.iload_n 2, 1) := by decide +kernel
theorem dX1_repeatsIn_86 : decode cX1_repeatsIn 86 = .ok (.ireturn, 1) := by decide +kernel
theorem dX1_repeatsIn_87 : decode cX1_repeatsIn 87 = .ok (.iinc 2 1, 3) := by decide +kernel
theorem dX1_repeatsIn_90 : decode cX1_repeatsIn 90 = .ok (.goto (-56), 3) := by decide +kernel
theorem dX1_repeatsIn_93 : decode cX1_repeatsIn 93 = .ok (.iconst (-1), 1) := by decide +kernel
theorem dX1_repeatsIn_94 : decode cX1_repeatsIn 94 = .ok (.ireturn, 1) := by decide +kernel
set_option maxRecDepth 20000 in
theorem ggX1_bestCut_X0_hasLeafAt : GoodIn wsX1_bestCut wsX0_hasLeafAt := goodIn_r _ [6, 7, 8, 9, 5, 10, 11, 97, 98] (by decide +kernel) (by decide +kernel)
set_option maxRecDepth 20000 in
theorem gX1_bestCut_X0_hasLeafAt : GoodIn wsX1_bestCut (wsV RX1 82 RX0 yX0_hasLeafAt wsX0_hasLeafAt) := goodIn_app (goodIn_of _ (by decide +kernel)) ggX1_bestCut_X0_hasLeafAt
set_option maxRecDepth 20000 in
theorem ggX1_bestCut_X1_litBehindCut : GoodIn wsX1_bestCut wsX1_litBehindCut := goodIn_r _ [16, 17, 1, 18, 19, 20, 21, 22, 23, 5, 24, 11, 25, 26, 27, 28, 29, 30, 31, 32, 33, 34, 15, 35, 36, 37, 38, 39, 40, 41, 42, 43, 7, 8, 9, 10, 44, 45, 46, 47, 48, 49, 50, 51, 52, 53, 54, 55, 56, 57, 58, 59, 60, 61, 62, 63, 64, 65, 66, 67, 68, 69, 70, 71, 72, 73, 3, 4, 6, 74, 75, 76, 77, 78, 79, 80, 81, 82, 83, 84, 85, 86, 87, 88, 89, 90, 91, 92, 93, 94, 95, 96, 97, 98] (by decide +kernel) (by decide +kernel)
set_option maxRecDepth 20000 in
theorem gX1_bestCut_X1_litBehindCut : GoodIn wsX1_bestCut (wsV RX1 140 RX1 yX1_litBehindCut wsX1_litBehindCut) := goodIn_app (goodIn_of _ (by decide +kernel)) ggX1_bestCut_X1_litBehindCut
theorem dX1_bestCut_0 : decode cX1_bestCut 0 = .ok (.iconst (-1), 1) := by decide +kernel
theorem dX1_bestCut_1 : decode cX1_bestCut 1 = .ok (.istore_n 1, 1) := by decide +kernel
theorem dX1_bestCut_2 : decode cX1_bestCut 2 = .ok (.iconst (-1), 1) := by decide +kernel
theorem dX1_bestCut_3 : decode cX1_bestCut 3 = .ok (.istore_n 2, 1) := by decide +kernel
theorem dX1_bestCut_4 : decode cX1_bestCut 4 = .ok (.iconst 0, 1) := by decide +kernel
theorem dX1_bestCut_5 : decode cX1_bestCut 5 = .ok (.istore_n 3, 1) := by decide +kernel
theorem dX1_bestCut_6 : decode cX1_bestCut 6 = .ok (.iload_n 3, 1) := by decide +kernel
theorem dX1_bestCut_7 : decode cX1_bestCut 7 = .ok (.bipush 96, 2) := by decide +kernel
theorem dX1_bestCut_9 : decode cX1_bestCut 9 = .ok (.if_icmp .ge 56, 3) := by decide +kernel
theorem dX1_bestCut_12 : decode cX1_bestCut 12 = .ok (.iload_n 3, 1) := by decide +kernel
theorem dX1_bestCut_13 : decode cX1_bestCut 13 = .ok (.bipush 12, 2) := by decide +kernel
theorem dX1_bestCut_15 : decode cX1_bestCut 15 = .ok (.idiv, 1) := by decide +kernel
theorem dX1_bestCut_16 : decode cX1_bestCut 16 = .ok (.istore 4, 2) := by decide +kernel
theorem dX1_bestCut_18 : decode cX1_bestCut 18 = .ok (.iload_n 3, 1) := by decide +kernel
theorem dX1_bestCut_19 : decode cX1_bestCut 19 = .ok (.bipush 12, 2) := by decide +kernel
theorem dX1_bestCut_21 : decode cX1_bestCut 21 = .ok (.irem, 1) := by decide +kernel
theorem dX1_bestCut_22 : decode cX1_bestCut 22 = .ok (.istore 5, 2) := by decide +kernel
theorem dX1_bestCut_24 : decode cX1_bestCut 24 = .ok (.aload_n 0, 1) := by decide +kernel
theorem dX1_bestCut_25 : decode cX1_bestCut 25 = .ok (.getfield 10, 3) := by decide +kernel
theorem dX1_bestCut_28 : decode cX1_bestCut 28 = .ok (.iload 4, 2) := by decide +kernel
theorem dX1_bestCut_30 : decode cX1_bestCut 30 = .ok (.iload 5, 2) := by decide +kernel
theorem dX1_bestCut_32 : decode cX1_bestCut 32 = .ok (.invokevirtual 82, 3) := by decide +kernel
theorem dX1_bestCut_35 : decode cX1_bestCut 35 = .ok (.ifCond .eq 24, 3) := by decide +kernel
theorem dX1_bestCut_38 : decode cX1_bestCut 38 = .ok (.aload_n 0, 1) := by decide +kernel
theorem dX1_bestCut_39 : decode cX1_bestCut 39 = .ok (.iload 4, 2) := by decide +kernel
theorem dX1_bestCut_41 : decode cX1_bestCut 41 = .ok (.iload 5, 2) := by decide +kernel
theorem dX1_bestCut_43 : decode cX1_bestCut 43 = .ok (.invokevirtual 140, 3) := by decide +kernel
theorem dX1_bestCut_46 : decode cX1_bestCut 46 = .ok (.istore 6, 2) := by decide +kernel
theorem dX1_bestCut_48 : decode cX1_bestCut 48 = .ok (.iload 6, 2) := by decide +kernel
theorem dX1_bestCut_50 : decode cX1_bestCut 50 = .ok (.iload_n 2, 1) := by decide +kernel
theorem dX1_bestCut_51 : decode cX1_bestCut 51 = .ok (.if_icmp .le 8, 3) := by decide +kernel
theorem dX1_bestCut_54 : decode cX1_bestCut 54 = .ok (.iload 6, 2) := by decide +kernel
theorem dX1_bestCut_56 : decode cX1_bestCut 56 = .ok (.istore_n 2, 1) := by decide +kernel
theorem dX1_bestCut_57 : decode cX1_bestCut 57 = .ok (.iload_n 3, 1) := by decide +kernel
theorem dX1_bestCut_58 : decode cX1_bestCut 58 = .ok (.istore_n 1, 1) := by decide +kernel
theorem dX1_bestCut_59 : decode cX1_bestCut 59 = .ok (.iinc 3 1, 3) := by decide +kernel
theorem dX1_bestCut_62 : decode cX1_bestCut 62 = .ok (.goto (-56), 3) := by decide +kernel
theorem dX1_bestCut_65 : decode cX1_bestCut 65 = .ok (.iload_n 1, 1) := by decide +kernel
theorem dX1_bestCut_66 : decode cX1_bestCut 66 = .ok (.ireturn, 1) := by decide +kernel
set_option maxRecDepth 20000 in
theorem ggX1_clear_X0_strip : GoodIn wsX1_clear wsX0_strip := goodIn_r _ [10, 11, 12, 24, 25] (by decide +kernel) (by decide +kernel)
set_option maxRecDepth 20000 in
theorem gX1_clear_X0_strip : GoodIn wsX1_clear (wsV RX1 143 RX0 yX0_strip wsX0_strip) := goodIn_app (goodIn_of _ (by decide +kernel)) ggX1_clear_X0_strip
theorem dX1_clear_0 : decode cX1_clear 0 = .ok (.aload_n 0, 1) := by decide +kernel
theorem dX1_clear_1 : decode cX1_clear 1 = .ok (.getfield 10, 3) := by decide +kernel
theorem dX1_clear_4 : decode cX1_clear 4 = .ok (.invokevirtual 143, 3) := by decide +kernel
theorem dX1_clear_7 : decode cX1_clear 7 = .ok (.aload_n 0, 1) := by decide +kernel
theorem dX1_clear_8 : decode cX1_clear 8 = .ok (.iconst 0, 1) := by decide +kernel
theorem dX1_clear_9 : decode cX1_clear 9 = .ok (.putfield 37, 3) := by decide +kernel
theorem dX1_clear_12 : decode cX1_clear 12 = .ok (.aload_n 0, 1) := by decide +kernel
theorem dX1_clear_13 : decode cX1_clear 13 = .ok (.iconst 0, 1) := by decide +kernel
theorem dX1_clear_14 : decode cX1_clear 14 = .ok (.putfield 40, 3) := by decide +kernel
theorem dX1_clear_17 : decode cX1_clear 17 = .ok (.aload_n 0, 1) := by decide +kernel
theorem dX1_clear_18 : decode cX1_clear 18 = .ok (.iconst 0, 1) := by decide +kernel
theorem dX1_clear_19 : decode cX1_clear 19 = .ok (.putfield 43, 3) := by decide +kernel
theorem dX1_clear_22 : decode cX1_clear 22 = .ok (.aload_n 0, 1) := by decide +kernel
theorem dX1_clear_23 : decode cX1_clear 23 = .ok (.iconst 0, 1) := by decide +kernel
theorem dX1_clear_24 : decode cX1_clear 24 = .ok (.putfield 46, 3) := by decide +kernel
theorem dX1_clear_27 : decode cX1_clear 27 = .ok (.return_, 1) := by decide +kernel
set_option maxRecDepth 20000 in
theorem ggX1_litBehindCut_X0_copyFrom : GoodIn wsX1_litBehindCut wsX0_copyFrom := goodIn_r _ [10, 11, 12, 92, 93] (by decide +kernel) (by decide +kernel)
set_option maxRecDepth 20000 in
theorem gX1_litBehindCut_X0_copyFrom : GoodIn wsX1_litBehindCut (wsV RX1 105 RX0 yX0_copyFrom wsX0_copyFrom) := goodIn_app (goodIn_of _ (by decide +kernel)) ggX1_litBehindCut_X0_copyFrom
set_option maxRecDepth 20000 in
theorem ggX1_litBehindCut_X0_cutLeaf : GoodIn wsX1_litBehindCut wsX0_cutLeaf := goodIn_r _ [16, 12, 17, 18, 19, 9, 20, 11, 21, 22, 23, 92, 93] (by decide +kernel) (by decide +kernel)
set_option maxRecDepth 20000 in
theorem gX1_litBehindCut_X0_cutLeaf : GoodIn wsX1_litBehindCut (wsV RX1 93 RX0 yX0_cutLeaf wsX0_cutLeaf) := goodIn_app (goodIn_of _ (by decide +kernel)) ggX1_litBehindCut_X0_cutLeaf
set_option maxRecDepth 20000 in
theorem ggX1_litBehindCut_X0_becomeNextOf : GoodIn wsX1_litBehindCut wsX0_becomeNextOf := goodIn_r _ [27, 11, 12, 28, 29, 30, 9, 31, 32, 33, 34, 35, 36, 37, 38, 39, 40, 41, 42, 43, 44, 45, 46, 47, 48, 49, 50, 51, 52, 53, 54, 55, 56, 57, 58, 59, 60, 61, 62, 63, 64, 65, 66, 67, 68, 69, 70, 71, 72, 73, 74, 75, 76, 17, 18, 19, 20, 21, 22, 23, 92, 93] (by decide +kernel) (by decide +kernel)
set_option maxRecDepth 20000 in
theorem gX1_litBehindCut_X0_becomeNextOf : GoodIn wsX1_litBehindCut (wsV RX1 101 RX0 yX0_becomeNextOf wsX0_becomeNextOf) := goodIn_app (goodIn_of _ (by decide +kernel)) ggX1_litBehindCut_X0_becomeNextOf
set_option maxRecDepth 20000 in
theorem ggX1_litBehindCut_X0_countLit : GoodIn wsX1_litBehindCut wsX0_countLit := goodIn_r _ [80, 11, 43, 44, 45, 46, 47, 48, 49, 92, 93] (by decide +kernel) (by decide +kernel)
set_option maxRecDepth 20000 in
theorem gX1_litBehindCut_X0_countLit : GoodIn wsX1_litBehindCut (wsV RX1 127 RX0 yX0_countLit wsX0_countLit) := goodIn_app (goodIn_of _ (by decide +kernel)) ggX1_litBehindCut_X0_countLit
theorem dX1_litBehindCut_0 : decode cX1_litBehindCut 0 = .ok (.aload_n 0, 1) := by decide +kernel
theorem dX1_litBehindCut_1 : decode cX1_litBehindCut 1 = .ok (.getfield 16, 3) := by decide +kernel
theorem dX1_litBehindCut_4 : decode cX1_litBehindCut 4 = .ok (.aload_n 0, 1) := by decide +kernel
theorem dX1_litBehindCut_5 : decode cX1_litBehindCut 5 = .ok (.getfield 10, 3) := by decide +kernel
theorem dX1_litBehindCut_8 : decode cX1_litBehindCut 8 = .ok (.invokevirtual 105, 3) := by decide +kernel
theorem dX1_litBehindCut_11 : decode cX1_litBehindCut 11 = .ok (.aload_n 0, 1) := by decide +kernel
theorem dX1_litBehindCut_12 : decode cX1_litBehindCut 12 = .ok (.getfield 16, 3) := by decide +kernel
theorem dX1_litBehindCut_15 : decode cX1_litBehindCut 15 = .ok (.iload_n 1, 1) := by decide +kernel
theorem dX1_litBehindCut_16 : decode cX1_litBehindCut 16 = .ok (.iload_n 2, 1) := by decide +kernel
theorem dX1_litBehindCut_17 : decode cX1_litBehindCut 17 = .ok (.invokevirtual 93, 3) := by decide +kernel
theorem dX1_litBehindCut_20 : decode cX1_litBehindCut 20 = .ok (.aload_n 0, 1) := by decide +kernel
theorem dX1_litBehindCut_21 : decode cX1_litBehindCut 21 = .ok (.getfield 19, 3) := by decide +kernel
theorem dX1_litBehindCut_24 : decode cX1_litBehindCut 24 = .ok (.aload_n 0, 1) := by decide +kernel
theorem dX1_litBehindCut_25 : decode cX1_litBehindCut 25 = .ok (.getfield 16, 3) := by decide +kernel
theorem dX1_litBehindCut_28 : decode cX1_litBehindCut 28 = .ok (.aload_n 0, 1) := by decide +kernel
theorem dX1_litBehindCut_29 : decode cX1_litBehindCut 29 = .ok (.getfield 33, 3) := by decide +kernel
theorem dX1_litBehindCut_32 : decode cX1_litBehindCut 32 = .ok (.aload_n 0, 1) := by decide +kernel
theorem dX1_litBehindCut_33 : decode cX1_litBehindCut 33 = .ok (.getfield 29, 3) := by decide +kernel
theorem dX1_litBehindCut_36 : decode cX1_litBehindCut 36 = .ok (.invokevirtual 101, 3) := by decide +kernel
theorem dX1_litBehindCut_39 : decode cX1_litBehindCut 39 = .ok (.pop, 1) := by decide +kernel
theorem dX1_litBehindCut_40 : decode cX1_litBehindCut 40 = .ok (.aload_n 0, 1) := by decide +kernel
theorem dX1_litBehindCut_41 : decode cX1_litBehindCut 41 = .ok (.getfield 19, 3) := by decide +kernel
theorem dX1_litBehindCut_44 : decode cX1_litBehindCut 44 = .ok (.invokevirtual 127, 3) := by decide +kernel
theorem dX1_litBehindCut_47 : decode cX1_litBehindCut 47 = .ok (.ireturn, 1) := by decide +kernel
set_option maxRecDepth 20000 in
theorem ggX1_remember_X0_leavesOfHalf : GoodIn wsX1_remember wsX0_leavesOfHalf := goodIn_r _ [8, 9, 10, 11, 7, 12, 13, 25, 26] (by decide +kernel) (by decide +kernel)
set_option maxRecDepth 20000 in
theorem gX1_remember_X0_leavesOfHalf : GoodIn wsX1_remember (wsV RX1 146 RX0 yX0_leavesOfHalf wsX0_leavesOfHalf) := goodIn_app (goodIn_of _ (by decide +kernel)) ggX1_remember_X0_leavesOfHalf
theorem dX1_remember_0 : decode cX1_remember 0 = .ok (.aload_n 0, 1) := by decide +kernel
theorem dX1_remember_1 : decode cX1_remember 1 = .ok (.getfield 22, 3) := by decide +kernel
theorem dX1_remember_4 : decode cX1_remember 4 = .ok (.iload_n 1, 1) := by decide +kernel
theorem dX1_remember_5 : decode cX1_remember 5 = .ok (.aload_n 0, 1) := by decide +kernel
theorem dX1_remember_6 : decode cX1_remember 6 = .ok (.getfield 16, 3) := by decide +kernel
theorem dX1_remember_9 : decode cX1_remember 9 = .ok (.iconst 0, 1) := by decide +kernel
theorem dX1_remember_10 : decode cX1_remember 10 = .ok (.invokevirtual 146, 3) := by decide +kernel
theorem dX1_remember_13 : decode cX1_remember 13 = .ok (.lastore, 1) := by decide +kernel
theorem dX1_remember_14 : decode cX1_remember 14 = .ok (.aload_n 0, 1) := by decide +kernel
theorem dX1_remember_15 : decode cX1_remember 15 = .ok (.getfield 26, 3) := by decide +kernel
theorem dX1_remember_18 : decode cX1_remember 18 = .ok (.iload_n 1, 1) := by decide +kernel
theorem dX1_remember_19 : decode cX1_remember 19 = .ok (.aload_n 0, 1) := by decide +kernel
theorem dX1_remember_20 : decode cX1_remember 20 = .ok (.getfield 16, 3) := by decide +kernel
theorem dX1_remember_23 : decode cX1_remember 23 = .ok (.iconst 4, 1) := by decide +kernel
theorem dX1_remember_24 : decode cX1_remember 24 = .ok (.invokevirtual 146, 3) := by decide +kernel
theorem dX1_remember_27 : decode cX1_remember 27 = .ok (.lastore, 1) := by decide +kernel
theorem dX1_remember_28 : decode cX1_remember 28 = .ok (.return_, 1) := by decide +kernel
theorem dX1_looksAsBefore_0 : decode cX1_looksAsBefore 0 = .ok (.iload_n 2, 1) := by decide +kernel
theorem dX1_looksAsBefore_1 : decode cX1_looksAsBefore 1 = .ok (.istore_n 3, 1) := by decide +kernel
theorem dX1_looksAsBefore_2 : decode cX1_looksAsBefore 2 = .ok (.iload_n 3, 1) := by decide +kernel
theorem dX1_looksAsBefore_3 : decode cX1_looksAsBefore 3 = .ok (.iload_n 1, 1) := by decide +kernel
theorem dX1_looksAsBefore_4 : decode cX1_looksAsBefore 4 = .ok (.if_icmp .ge 43, 3) := by decide +kernel
theorem dX1_looksAsBefore_7 : decode cX1_looksAsBefore 7 = .ok (.aload_n 0, 1) := by decide +kernel
theorem dX1_looksAsBefore_8 : decode cX1_looksAsBefore 8 = .ok (.getfield 22, 3) := by decide +kernel
theorem dX1_looksAsBefore_11 : decode cX1_looksAsBefore 11 = .ok (.iload_n 3, 1) := by decide +kernel
theorem dX1_looksAsBefore_12 : decode cX1_looksAsBefore 12 = .ok (.laload, 1) := by decide +kernel
theorem dX1_looksAsBefore_13 : decode cX1_looksAsBefore 13 = .ok (.aload_n 0, 1) := by decide +kernel
theorem dX1_looksAsBefore_14 : decode cX1_looksAsBefore 14 = .ok (.getfield 22, 3) := by decide +kernel
theorem dX1_looksAsBefore_17 : decode cX1_looksAsBefore 17 = .ok (.iload_n 1, 1) := by decide +kernel
theorem dX1_looksAsBefore_18 : decode cX1_looksAsBefore 18 = .ok (.laload, 1) := by decide +kernel
theorem dX1_looksAsBefore_19 : decode cX1_looksAsBefore 19 = .ok (.lcmp, 1) := by decide +kernel
theorem dX1_looksAsBefore_20 : decode cX1_looksAsBefore 20 = .ok (.ifCond .ne 21, 3) := by decide +kernel
theorem dX1_looksAsBefore_23 : decode cX1_looksAsBefore 23 = .ok (.aload_n 0, 1) := by decide +kernel
theorem dX1_looksAsBefore_24 : decode cX1_looksAsBefore 24 = .ok (.getfield 26, 3) := by decide +kernel
theorem dX1_looksAsBefore_27 : decode cX1_looksAsBefore 27 = .ok (.iload_n 3, 1) := by decide +kernel
theorem dX1_looksAsBefore_28 : decode cX1_looksAsBefore 28 = .ok (.laload, 1) := by decide +kernel
theorem dX1_looksAsBefore_29 : decode cX1_looksAsBefore 29 = .ok (.aload_n 0, 1) := by decide +kernel
theorem dX1_looksAsBefore_30 : decode cX1_looksAsBefore 30 = .ok (.getfield 26, 3) := by decide +kernel
theorem dX1_looksAsBefore_33 : decode cX1_looksAsBefore 33 = .ok (.iload_n 1, 1) := by decide +kernel
theorem dX1_looksAsBefore_34 : decode cX1_looksAsBefore 34 = .ok (.laload, 1) := by decide +kernel
theorem dX1_looksAsBefore_35 : decode cX1_looksAsBefore 35 = .ok (.lcmp, 1) := by decide +kernel
theorem dX1_looksAsBefore_36 : decode cX1_looksAsBefore 36 = .ok (.ifCond .ne 5, 3) := by decide +kernel
theorem dX1_looksAsBefore_39 : decode cX1_looksAsBefore 39 = .ok (.iconst 1, 1) := by decide +kernel
theorem dX1_looksAsBefore_40 : decode cX1_looksAsBefore 40 = .ok (.ireturn, 1) := by decide +kernel
theorem dX1_looksAsBefore_41 : decode cX1_looksAsBefore 41 = .ok (.iinc 3 1, 3) := by decide +kernel
theorem dX1_looksAsBefore_44 : decode cX1_looksAsBefore 44 = .ok (.goto (-42), 3) := by decide +kernel
theorem dX1_looksAsBefore_47 : decode cX1_looksAsBefore 47 = .ok (.iconst 0, 1) := by decide +kernel
theorem dX1_looksAsBefore_48 : decode cX1_looksAsBefore 48 = .ok (.ireturn, 1) := by decide +kernel
theorem dX1_requireColumn_0 : decode cX1_requireColumn 0 = .ok (.iload_n 0, 1) := by decide +kernel
theorem dX1_requireColumn_1 : decode cX1_requireColumn 1 = .ok (.ifCond .lt 9, 3) := by decide +kernel
theorem dX1_requireColumn_4 : decode cX1_requireColumn 4 = .ok (.iload_n 0, 1) := by decide +kernel
theorem dX1_requireColumn_5 : decode cX1_requireColumn 5 = .ok (.bipush 12, 2) := by decide +kernel
theorem dX1_requireColumn_7 : decode cX1_requireColumn 7 = .ok (.if_icmp .lt 13, 3) := by decide +kernel
theorem dX1_requireColumn_10 : decode cX1_requireColumn 10 = .ok (.new 150, 3) := by decide +kernel
theorem dX1_requireColumn_13 : decode cX1_requireColumn 13 = .ok (.dup, 1) := by decide +kernel
theorem dX1_requireColumn_14 : decode cX1_requireColumn 14 = .ok (.ldc 152, 2) := by decide +kernel
theorem dX1_requireColumn_16 : decode cX1_requireColumn 16 = .ok (.invokespecial 154, 3) := by decide +kernel
theorem dX1_requireColumn_19 : decode cX1_requireColumn 19 = .ok (.athrow, 1) := by decide +kernel
theorem dX1_requireColumn_20 : decode cX1_requireColumn 20 = .ok (.return_, 1) := by decide +kernel
set_option maxRecDepth 20000 in
theorem ggX1_requireCell_X1_isCell : GoodIn wsX1_requireCell wsX1_isCell := goodIn_r _ [6] (by decide +kernel) (by decide +kernel)
set_option maxRecDepth 20000 in
theorem gX1_requireCell_X1_isCell : GoodIn wsX1_requireCell (va_wsS RX1 155 yX1_isCell wsX1_isCell) := goodIn_app (goodIn_of _ (by decide +kernel)) ggX1_requireCell_X1_isCell
theorem dX1_requireCell_0 : decode cX1_requireCell 0 = .ok (.iload_n 0, 1) := by decide +kernel
theorem dX1_requireCell_1 : decode cX1_requireCell 1 = .ok (.iload_n 1, 1) := by decide +kernel
theorem dX1_requireCell_2 : decode cX1_requireCell 2 = .ok (.invokestatic 155, 3) := by decide +kernel
theorem dX1_requireCell_5 : decode cX1_requireCell 5 = .ok (.ifCond .ne 13, 3) := by decide +kernel
theorem dX1_requireCell_8 : decode cX1_requireCell 8 = .ok (.new 150, 3) := by decide +kernel
theorem dX1_requireCell_11 : decode cX1_requireCell 11 = .ok (.dup, 1) := by decide +kernel
theorem dX1_requireCell_12 : decode cX1_requireCell 12 = .ok (.ldc 158, 2) := by decide +kernel
theorem dX1_requireCell_14 : decode cX1_requireCell 14 = .ok (.invokespecial 154, 3) := by decide +kernel
theorem dX1_requireCell_17 : decode cX1_requireCell 17 = .ok (.athrow, 1) := by decide +kernel
theorem dX1_requireCell_18 : decode cX1_requireCell 18 = .ok (.return_, 1) := by decide +kernel
theorem dX1_isCell_0 : decode cX1_isCell 0 = .ok (.iload_n 0, 1) := by decide +kernel
theorem dX1_isCell_1 : decode cX1_isCell 1 = .ok (.ifCond .lt 23, 3) := by decide +kernel
theorem dX1_isCell_4 : decode cX1_isCell 4 = .ok (.iload_n 0, 1) := by decide +kernel
theorem dX1_isCell_5 : decode cX1_isCell 5 = .ok (.bipush 8, 2) := by decide +kernel
theorem dX1_isCell_7 : decode cX1_isCell 7 = .ok (.if_icmp .ge 17, 3) := by decide +kernel
theorem dX1_isCell_10 : decode cX1_isCell 10 = .ok (.iload_n 1, 1) := by decide +kernel
theorem dX1_isCell_11 : decode cX1_isCell 11 = .ok (.ifCond .lt 13, 3) := by decide +kernel
theorem dX1_isCell_14 : decode cX1_isCell 14 = .ok (.iload_n 1, 1) := by decide +kernel
theorem dX1_isCell_15 : decode cX1_isCell 15 = .ok (.bipush 12, 2) := by decide +kernel
theorem dX1_isCell_17 : decode cX1_isCell 17 = .ok (.if_icmp .ge 7, 3) := by decide +kernel
theorem dX1_isCell_20 : decode cX1_isCell 20 = .ok (.iconst 1, 1) := by decide +kernel
theorem dX1_isCell_21 : decode cX1_isCell 21 = .ok (.goto 4, 3) := by decide +kernel
theorem dX1_isCell_24 : decode cX1_isCell 24 = .ok (.iconst 0, 1) := by decide +kernel
theorem dX1_isCell_25 : decode cX1_isCell 25 = .ok (.ireturn, 1) := by decide +kernel
theorem dX2_init_0 : decode cX2_init 0 = .ok (.aload_n 0, 1) := by decide +kernel
theorem dX2_init_1 : decode cX2_init 1 = .ok (.invokespecial 1, 3) := by decide +kernel
theorem dX2_init_4 : decode cX2_init 4 = .ok (.aload_n 0, 1) := by decide +kernel
theorem dX2_init_5 : decode cX2_init 5 = .ok (.sipush 5952, 3) := by decide +kernel
theorem dX2_init_8 : decode cX2_init 8 = .ok (.newarray .int, 2) := by decide +kernel
theorem dX2_init_10 : decode cX2_init 10 = .ok (.putfield 7, 3) := by decide +kernel
theorem dX2_init_13 : decode cX2_init 13 = .ok (.aload_n 0, 1) := by decide +kernel
theorem dX2_init_14 : decode cX2_init 14 = .ok (.bipush 12, 2) := by decide +kernel
theorem dX2_init_16 : decode cX2_init 16 = .ok (.newarray .int, 2) := by decide +kernel
theorem dX2_init_18 : decode cX2_init 18 = .ok (.putfield 13, 3) := by decide +kernel
theorem dX2_init_21 : decode cX2_init 21 = .ok (.aload_n 0, 1) := by decide +kernel
theorem dX2_init_22 : decode cX2_init 22 = .ok (.iconst 3, 1) := by decide +kernel
theorem dX2_init_23 : decode cX2_init 23 = .ok (.putfield 16, 3) := by decide +kernel
theorem dX2_init_26 : decode cX2_init 26 = .ok (.iconst 0, 1) := by decide +kernel
theorem dX2_init_27 : decode cX2_init 27 = .ok (.istore_n 1, 1) := by decide +kernel
theorem dX2_init_28 : decode cX2_init 28 = .ok (.iload_n 1, 1) := by decide +kernel
theorem dX2_init_29 : decode cX2_init 29 = .ok (.bipush 12, 2) := by decide +kernel
theorem dX2_init_31 : decode cX2_init 31 = .ok (.if_icmp .ge 16, 3) := by decide +kernel
theorem dX2_init_34 : decode cX2_init 34 = .ok (.aload_n 0, 1) := by decide +kernel
theorem dX2_init_35 : decode cX2_init 35 = .ok (.getfield 13, 3) := by decide +kernel
theorem dX2_init_38 : decode cX2_init 38 = .ok (.iload_n 1, 1) := by decide +kernel
theorem dX2_init_39 : decode cX2_init 39 = .ok (.iconst 5, 1) := by decide +kernel
theorem dX2_init_40 : decode cX2_init 40 = .ok (.iastore, 1) := by decide +kernel
theorem dX2_init_41 : decode cX2_init 41 = .ok (.iinc 1 1, 3) := by decide +kernel
theorem dX2_init_44 : decode cX2_init 44 = .ok (.goto (-16), 3) := by decide +kernel
theorem dX2_init_47 : decode cX2_init 47 = .ok (.return_, 1) := by decide +kernel
theorem dX2_thrown_0 : decode cX2_thrown 0 = .ok (.aload_n 0, 1) := by decide +kernel
theorem dX2_thrown_1 : decode cX2_thrown 1 = .ok (.getfield 20, 3) := by decide +kernel
theorem dX2_thrown_4 : decode cX2_thrown 4 = .ok (.ireturn, 1) := by decide +kernel
theorem dX2_isColumn_0 : decode cX2_isColumn 0 = .ok (.iload_n 0, 1) := by decide +kernel
theorem dX2_isColumn_1 : decode cX2_isColumn 1 = .ok (.ifCond .lt 13, 3) := by decide +kernel
theorem dX2_isColumn_4 : decode cX2_isColumn 4 = .ok (.iload_n 0, 1) := by decide +kernel
theorem dX2_isColumn_5 : decode cX2_isColumn 5 = .ok (.bipush 12, 2) := by decide +kernel
theorem dX2_isColumn_7 : decode cX2_isColumn 7 = .ok (.if_icmp .ge 7, 3) := by decide +kernel
theorem dX2_isColumn_10 : decode cX2_isColumn 10 = .ok (.iconst 1, 1) := by decide +kernel
theorem dX2_isColumn_11 : decode cX2_isColumn 11 = .ok (.goto 4, 3) := by decide +kernel
theorem dX2_isColumn_14 : decode cX2_isColumn 14 = .ok (.iconst 0, 1) := by decide +kernel
theorem dX2_isColumn_15 : decode cX2_isColumn 15 = .ok (.ireturn, 1) := by decide +kernel
set_option maxRecDepth 20000 in
theorem ggX2_isCell_X2_isColumn : GoodIn wsX2_isCell wsX2_isColumn := goodIn_r _ [4] (by decide +kernel) (by decide +kernel)
set_option maxRecDepth 20000 in
theorem gX2_isCell_X2_isColumn : GoodIn wsX2_isCell (va_wsS RX2 23 yX2_isColumn wsX2_isColumn) := goodIn_app (goodIn_of _ (by decide +kernel)) ggX2_isCell_X2_isColumn
theorem dX2_isCell_0 : decode cX2_isCell 0 = .ok (.iload_n 0, 1) := by decide +kernel
theorem dX2_isCell_1 : decode cX2_isCell 1 = .ok (.ifCond .lt 20, 3) := by decide +kernel
theorem dX2_isCell_4 : decode cX2_isCell 4 = .ok (.iload_n 0, 1) := by decide +kernel
theorem dX2_isCell_5 : decode cX2_isCell 5 = .ok (.bipush 8, 2) := by decide +kernel
theorem dX2_isCell_7 : decode cX2_isCell 7 = .ok (.if_icmp .ge 14, 3) := by decide +kernel
theorem dX2_isCell_10 : decode cX2_isCell 10 = .ok (.iload_n 1, 1) := by decide +kernel
theorem dX2_isCell_11 : decode cX2_isCell 11 = .ok (.invokestatic 23, 3) := by decide +kernel
theorem dX2_isCell_14 : decode cX2_isCell 14 = .ok (.ifCond .eq 7, 3) := by decide +kernel
theorem dX2_isCell_17 : decode cX2_isCell 17 = .ok (.iconst 1, 1) := by decide +kernel
theorem dX2_isCell_18 : decode cX2_isCell 18 = .ok (.goto 4, 3) := by decide +kernel
theorem dX2_isCell_21 : decode cX2_isCell 21 = .ok (.iconst 0, 1) := by decide +kernel
theorem dX2_isCell_22 : decode cX2_isCell 22 = .ok (.ireturn, 1) := by decide +kernel
set_option maxRecDepth 20000 in
theorem ggX2_leafAt_X2_isColumn : GoodIn wsX2_leafAt wsX2_isColumn := goodIn_r _ [6] (by decide +kernel) (by decide +kernel)
set_option maxRecDepth 20000 in
theorem gX2_leafAt_X2_isColumn : GoodIn wsX2_leafAt (va_wsS RX2 23 yX2_isColumn wsX2_isColumn) := goodIn_app (goodIn_of _ (by decide +kernel)) ggX2_leafAt_X2_isColumn
theorem dX2_leafAt_0 : decode cX2_leafAt 0 = .ok (.iload_n 3, 1) := by decide +kernel
theorem dX2_leafAt_1 : decode cX2_leafAt 1 = .ok (.istore 4, 2) := by decide +kernel
theorem dX2_leafAt_3 : decode cX2_leafAt 3 = .ok (.iload_n 3, 1) := by decide +kernel
theorem dX2_leafAt_4 : decode cX2_leafAt 4 = .ok (.invokestatic 23, 3) := by decide +kernel
theorem dX2_leafAt_7 : decode cX2_leafAt 7 = .ok (.ifCond .ne 45, 3) := by decide +kernel
theorem dX2_leafAt_10 : decode cX2_leafAt 10 = .ok (.aload_n 0, 1) := by decide +kernel
theorem dX2_leafAt_11 : decode cX2_leafAt 11 = .ok (.getfield 27, 3) := by decide +kernel
theorem dX2_leafAt_14 : decode cX2_leafAt 14 = .ok (.iconst 1, 1) := by decide +kernel
theorem dX2_leafAt_15 : decode cX2_leafAt 15 = .ok (.if_icmp .ne 13, 3) := by decide +kernel
theorem dX2_leafAt_18 : decode cX2_leafAt 18 = .ok (.iload_n 3, 1) := by decide +kernel
theorem dX2_leafAt_19 : decode cX2_leafAt 19 = .ok (.bipush 12, 2) := by decide +kernel
theorem dX2_leafAt_21 : decode cX2_leafAt 21 = .ok (.iadd, 1) := by decide +kernel
theorem dX2_leafAt_22 : decode cX2_leafAt 22 = .ok (.bipush 12, 2) := by decide +kernel
theorem dX2_leafAt_24 : decode cX2_leafAt 24 = .ok (.irem, 1) := by decide +kernel
theorem dX2_leafAt_25 : decode cX2_leafAt 25 = .ok (.goto 25, 3) := by decide +kernel
theorem dX2_leafAt_28 : decode cX2_leafAt 28 = .ok (.aload_n 0, 1) := by decide +kernel
theorem dX2_leafAt_29 : decode cX2_leafAt 29 = .ok (.getfield 27, 3) := by decide +kernel
theorem dX2_leafAt_32 : decode cX2_leafAt 32 = .ok (.iconst 2, 1) := by decide +kernel
theorem dX2_leafAt_33 : decode cX2_leafAt 33 = .ok (.if_icmp .ne 16, 3) := by decide +kernel
theorem dX2_leafAt_36 : decode cX2_leafAt 36 = .ok (.iload_n 3, 1) := by decide +kernel
theorem dX2_leafAt_37 : decode cX2_leafAt 37 = .ok (.ifCond .ge 7, 3) := by decide +kernel
theorem dX2_leafAt_40 : decode cX2_leafAt 40 = .ok (.iconst 0, 1) := by decide +kernel
theorem dX2_leafAt_41 : decode cX2_leafAt 41 = .ok (.goto 9, 3) := by decide +kernel
theorem dX2_leafAt_44 : decode cX2_leafAt 44 = .ok (.bipush 11, 2) := by decide +kernel
theorem dX2_leafAt_46 : decode cX2_leafAt 46 = .ok (.goto 4, 3) := by decide +kernel
theorem dX2_leafAt_49 : decode cX2_leafAt 49 = .ok (.iconst (-1), 1) := by decide +kernel
theorem dX2_leafAt_50 : decode cX2_leafAt 50 = .ok (.istore 4, 2) := by decide +kernel
theorem dX2_leafAt_52 : decode cX2_leafAt 52 = .ok (.iload_n 2, 1) := by decide +kernel
theorem dX2_leafAt_53 : decode cX2_leafAt 53 = .ok (.ifCond .lt 39, 3) := by decide +kernel
theorem dX2_leafAt_56 : decode cX2_leafAt 56 = .ok (.iload_n 2, 1) := by decide +kernel
theorem dX2_leafAt_57 : decode cX2_leafAt 57 = .ok (.bipush 8, 2) := by decide +kernel
theorem dX2_leafAt_59 : decode cX2_leafAt 59 = .ok (.if_icmp .ge 33, 3) := by decide +kernel
theorem dX2_leafAt_62 : decode cX2_leafAt 62 = .ok (.iload 4, 2) := by decide +kernel
theorem dX2_leafAt_64 : decode cX2_leafAt 64 = .ok (.ifCond .lt 28, 3) := by decide +kernel
theorem dX2_leafAt_67 : decode cX2_leafAt 67 = .ok (.aload_n 0, 1) := by decide +kernel
theorem dX2_leafAt_68 : decode cX2_leafAt 68 = .ok (.getfield 7, 3) := by decide +kernel
theorem dX2_leafAt_71 : decode cX2_leafAt 71 = .ok (.bipush 96, 2) := by decide +kernel
theorem dX2_leafAt_73 : decode cX2_leafAt 73 = .ok (.iload_n 1, 1) := by decide +kernel
theorem dX2_leafAt_74 : decode cX2_leafAt 74 = .ok (.imul, 1) := by decide +kernel
theorem dX2_leafAt_75 : decode cX2_leafAt 75 = .ok (.bipush 12, 2) := by decide +kernel
theorem dX2_leafAt_77 : decode cX2_leafAt 77 = .ok (.iload_n 2, 1) := by decide +kernel
theorem dX2_leafAt_78 : decode cX2_leafAt 78 = .ok (.imul, 1) := by decide +kernel
theorem dX2_leafAt_79 : decode cX2_leafAt 79 = .ok (.iadd, 1) := by decide +kernel
theorem dX2_leafAt_80 : decode cX2_leafAt 80 = .ok (.iload 4, 2) := by decide +kernel
theorem dX2_leafAt_82 : decode cX2_leafAt 82 = .ok (.iadd, 1) := by decide +kernel
theorem dX2_leafAt_83 : decode cX2_leafAt 83 = .ok (.iaload, 1) := by decide +kernel
theorem dX2_leafAt_84 : decode cX2_leafAt 84 = .ok (.iconst 1, 1) := by decide +kernel
theorem dX2_leafAt_85 : decode cX2_leafAt 85 = .ok (.if_icmp .ne 7, 3) := by decide +kernel
theorem dX2_leafAt_88 : decode cX2_leafAt 88 = .ok (.iconst 1, 1) := by decide +kernel
theorem dX2_leafAt_89 : decode cX2_leafAt 89 = .ok (.goto 4, 3) := by decide +kernel
theorem dX2_leafAt_92 : decode cX2_leafAt 92 = .ok (.iconst 0, 1) := by decide +kernel
theorem dX2_leafAt_93 : decode cX2_leafAt 93 = .ok (.ireturn, 1) := by decide +kernel
set_option maxRecDepth 20000 in
theorem ggX2_shade_X2_leafAt : GoodIn wsX2_shade wsX2_leafAt := goodIn_r _ [5, 6, 7, 8, 9, 4, 10, 11, 12, 13, 14, 15, 16, 17, 18] (by decide +kernel) (by decide +kernel)
set_option maxRecDepth 20000 in
theorem gX2_shade_X2_leafAt : GoodIn wsX2_shade (wsV RX2 30 RX2 yX2_leafAt wsX2_leafAt) := goodIn_app (goodIn_of _ (by decide +kernel)) ggX2_shade_X2_leafAt
theorem dX2_shade_0 : decode cX2_shade 0 = .ok (.iconst 0, 1) := by decide +kernel
theorem dX2_shade_1 : decode cX2_shade 1 = .ok (.istore 4, 2) := by decide +kernel
theorem dX2_shade_3 : decode cX2_shade 3 = .ok (.iload_n 2, 1) := by decide +kernel
theorem dX2_shade_4 : decode cX2_shade 4 = .ok (.iconst 1, 1) := by decide +kernel
theorem dX2_shade_5 : decode cX2_shade 5 = .ok (.iadd, 1) := by decide +kernel
theorem dX2_shade_6 : decode cX2_shade 6 = .ok (.istore 5, 2) := by decide +kernel
theorem dX2_shade_8 : decode cX2_shade 8 = .ok (.iload 5, 2) := by decide +kernel
theorem dX2_shade_10 : decode cX2_shade 10 = .ok (.bipush 8, 2) := by decide +kernel
theorem dX2_shade_12 : decode cX2_shade 12 = .ok (.if_icmp .ge 22, 3) := by decide +kernel
theorem dX2_shade_15 : decode cX2_shade 15 = .ok (.iload 4, 2) := by decide +kernel
theorem dX2_shade_17 : decode cX2_shade 17 = .ok (.aload_n 0, 1) := by decide +kernel
theorem dX2_shade_18 : decode cX2_shade 18 = .ok (.iload_n 1, 1) := by decide +kernel
theorem dX2_shade_19 : decode cX2_shade 19 = .ok (.iload 5, 2) := by decide +kernel
theorem dX2_shade_21 : decode cX2_shade 21 = .ok (.iload_n 3, 1) := by decide +kernel
theorem dX2_shade_22 : decode cX2_shade 22 = .ok (.invokevirtual 30, 3) := by decide +kernel
theorem dX2_shade_25 : decode cX2_shade 25 = .ok (.iadd, 1) := by decide +kernel
theorem dX2_shade_26 : decode cX2_shade 26 = .ok (.istore 4, 2) := by decide +kernel
theorem dX2_shade_28 : decode cX2_shade 28 = .ok (.iinc 5 1, 3) := by decide +kernel
theorem dX2_shade_31 : decode cX2_shade 31 = .ok (.goto (-23), 3) := by decide +kernel
theorem dX2_shade_34 : decode cX2_shade 34 = .ok (.iload 4, 2) := by decide +kernel
theorem dX2_shade_36 : decode cX2_shade 36 = .ok (.ireturn, 1) := by decide +kernel
set_option maxRecDepth 20000 in
theorem ggX2_threeIn_X2_leafAt : GoodIn wsX2_threeIn wsX2_leafAt := goodIn_r _ [5, 6, 7, 8, 9, 4, 10, 11, 12, 13, 14, 15, 16, 17, 18] (by decide +kernel) (by decide +kernel)
set_option maxRecDepth 20000 in
theorem gX2_threeIn_X2_leafAt : GoodIn wsX2_threeIn (wsV RX2 30 RX2 yX2_leafAt wsX2_leafAt) := goodIn_app (goodIn_of _ (by decide +kernel)) ggX2_threeIn_X2_leafAt
theorem dX2_threeIn_0 : decode cX2_threeIn 0 = .ok (.aload_n 0, 1) := by decide +kernel
theorem dX2_threeIn_1 : decode cX2_threeIn 1 = .ok (.iload_n 1, 1) := by decide +kernel
theorem dX2_threeIn_2 : decode cX2_threeIn 2 = .ok (.iload_n 2, 1) := by decide +kernel
theorem dX2_threeIn_3 : decode cX2_threeIn 3 = .ok (.iload_n 3, 1) := by decide +kernel
theorem dX2_threeIn_4 : decode cX2_threeIn 4 = .ok (.iconst 1, 1) := by decide +kernel
theorem dX2_threeIn_5 : decode cX2_threeIn 5 = .ok (.isub, 1) := by decide +kernel
theorem dX2_threeIn_6 : decode cX2_threeIn 6 = .ok (.invokevirtual 30, 3) := by decide +kernel
theorem dX2_threeIn_9 : decode cX2_threeIn 9 = .ok (.aload_n 0, 1) := by decide +kernel
theorem dX2_threeIn_10 : decode cX2_threeIn 10 = .ok (.iload_n 1, 1) := by decide +kernel
theorem dX2_threeIn_11 : decode cX2_threeIn 11 = .ok (.iload_n 2, 1) := by decide +kernel
theorem dX2_threeIn_12 : decode cX2_threeIn 12 = .ok (.iload_n 3, 1) := by decide +kernel
theorem dX2_threeIn_13 : decode cX2_threeIn 13 = .ok (.invokevirtual 30, 3) := by decide +kernel
theorem dX2_threeIn_16 : decode cX2_threeIn 16 = .ok (.iadd, 1) := by decide +kernel
theorem dX2_threeIn_17 : decode cX2_threeIn 17 = .ok (.aload_n 0, 1) := by decide +kernel
theorem dX2_threeIn_18 : decode cX2_threeIn 18 = .ok (.iload_n 1, 1) := by decide +kernel
theorem dX2_threeIn_19 : decode cX2_threeIn 19 = .ok (.iload_n 2, 1) := by decide +kernel
theorem dX2_threeIn_20 : decode cX2_threeIn 20 = .ok (.iload_n 3, 1) := by decide +kernel
theorem dX2_threeIn_21 : decode cX2_threeIn 21 = .ok (.iconst 1, 1) := by decide +kernel
theorem dX2_threeIn_22 : decode cX2_threeIn 22 = .ok (.iadd, 1) := by decide +kernel
theorem dX2_threeIn_23 : decode cX2_threeIn 23 = .ok (.invokevirtual 30, 3) := by decide +kernel
theorem dX2_threeIn_26 : decode cX2_threeIn 26 = .ok (.iadd, 1) := by decide +kernel
theorem dX2_threeIn_27 : decode cX2_threeIn 27 = .ok (.ireturn, 1) := by decide +kernel
set_option maxRecDepth 20000 in
theorem ggX2_holders_X2_threeIn : GoodIn wsX2_holders wsX2_threeIn := goodIn_r _ [5, 6, 7, 8, 4, 9, 10, 11, 12, 13, 14, 15, 16, 17, 18, 19, 20, 21, 22] (by decide +kernel) (by decide +kernel)
set_option maxRecDepth 20000 in
theorem gX2_holders_X2_threeIn : GoodIn wsX2_holders (wsV RX2 34 RX2 yX2_threeIn wsX2_threeIn) := goodIn_app (goodIn_of _ (by decide +kernel)) ggX2_holders_X2_threeIn
theorem dX2_holders_0 : decode cX2_holders 0 = .ok (.aload_n 0, 1) := by decide +kernel
theorem dX2_holders_1 : decode cX2_holders 1 = .ok (.iload_n 1, 1) := by decide +kernel
theorem dX2_holders_2 : decode cX2_holders 2 = .ok (.iload_n 2, 1) := by decide +kernel
theorem dX2_holders_3 : decode cX2_holders 3 = .ok (.iconst 1, 1) := by decide +kernel
theorem dX2_holders_4 : decode cX2_holders 4 = .ok (.isub, 1) := by decide +kernel
theorem dX2_holders_5 : decode cX2_holders 5 = .ok (.iload_n 3, 1) := by decide +kernel
theorem dX2_holders_6 : decode cX2_holders 6 = .ok (.invokevirtual 34, 3) := by decide +kernel
theorem dX2_holders_9 : decode cX2_holders 9 = .ok (.ireturn, 1) := by decide +kernel
set_option maxRecDepth 20000 in
theorem ggX2_neighbours_X2_threeIn : GoodIn wsX2_neighbours wsX2_threeIn := goodIn_r _ [5, 6, 7, 8, 4, 9, 10, 11, 12, 13, 14, 15, 16, 17, 18, 19, 20, 21, 22] (by decide +kernel) (by decide +kernel)
set_option maxRecDepth 20000 in
theorem gX2_neighbours_X2_threeIn : GoodIn wsX2_neighbours (wsV RX2 34 RX2 yX2_threeIn wsX2_threeIn) := goodIn_app (goodIn_of _ (by decide +kernel)) ggX2_neighbours_X2_threeIn
set_option maxRecDepth 20000 in
theorem ggX2_neighbours_X2_leafAt : GoodIn wsX2_neighbours wsX2_leafAt := goodIn_r _ [9, 10, 11, 12, 13, 4, 14, 15, 16, 17, 18, 19, 20, 21, 22] (by decide +kernel) (by decide +kernel)
set_option maxRecDepth 20000 in
theorem gX2_neighbours_X2_leafAt : GoodIn wsX2_neighbours (wsV RX2 30 RX2 yX2_leafAt wsX2_leafAt) := goodIn_app (goodIn_of _ (by decide +kernel)) ggX2_neighbours_X2_leafAt
theorem dX2_neighbours_0 : decode cX2_neighbours 0 = .ok (.aload_n 0, 1) := by decide +kernel
theorem dX2_neighbours_1 : decode cX2_neighbours 1 = .ok (.iload_n 1, 1) := by decide +kernel
theorem dX2_neighbours_2 : decode cX2_neighbours 2 = .ok (.iload_n 2, 1) := by decide +kernel
theorem dX2_neighbours_3 : decode cX2_neighbours 3 = .ok (.iconst 1, 1) := by decide +kernel
theorem dX2_neighbours_4 : decode cX2_neighbours 4 = .ok (.isub, 1) := by decide +kernel
theorem dX2_neighbours_5 : decode cX2_neighbours 5 = .ok (.iload_n 3, 1) := by decide +kernel
theorem dX2_neighbours_6 : decode cX2_neighbours 6 = .ok (.invokevirtual 34, 3) := by decide +kernel
theorem dX2_neighbours_9 : decode cX2_neighbours 9 = .ok (.aload_n 0, 1) := by decide +kernel
theorem dX2_neighbours_10 : decode cX2_neighbours 10 = .ok (.iload_n 1, 1) := by decide +kernel
theorem dX2_neighbours_11 : decode cX2_neighbours 11 = .ok (.iload_n 2, 1) := by decide +kernel
theorem dX2_neighbours_12 : decode cX2_neighbours 12 = .ok (.iconst 1, 1) := by decide +kernel
theorem dX2_neighbours_13 : decode cX2_neighbours 13 = .ok (.iadd, 1) := by decide +kernel
theorem dX2_neighbours_14 : decode cX2_neighbours 14 = .ok (.iload_n 3, 1) := by decide +kernel
theorem dX2_neighbours_15 : decode cX2_neighbours 15 = .ok (.invokevirtual 34, 3) := by decide +kernel
theorem dX2_neighbours_18 : decode cX2_neighbours 18 = .ok (.iadd, 1) := by decide +kernel
theorem dX2_neighbours_19 : decode cX2_neighbours 19 = .ok (.aload_n 0, 1) := by decide +kernel
theorem dX2_neighbours_20 : decode cX2_neighbours 20 = .ok (.iload_n 1, 1) := by decide +kernel
theorem dX2_neighbours_21 : decode cX2_neighbours 21 = .ok (.iload_n 2, 1) := by decide +kernel
theorem dX2_neighbours_22 : decode cX2_neighbours 22 = .ok (.iload_n 3, 1) := by decide +kernel
theorem dX2_neighbours_23 : decode cX2_neighbours 23 = .ok (.iconst 1, 1) := by decide +kernel
theorem dX2_neighbours_24 : decode cX2_neighbours 24 = .ok (.isub, 1) := by decide +kernel
theorem dX2_neighbours_25 : decode cX2_neighbours 25 = .ok (.invokevirtual 30, 3) := by decide +kernel
theorem dX2_neighbours_28 : decode cX2_neighbours 28 = .ok (.iadd, 1) := by decide +kernel
theorem dX2_neighbours_29 : decode cX2_neighbours 29 = .ok (.aload_n 0, 1) := by decide +kernel
theorem dX2_neighbours_30 : decode cX2_neighbours 30 = .ok (.iload_n 1, 1) := by decide +kernel
theorem dX2_neighbours_31 : decode cX2_neighbours 31 = .ok (.iload_n 2, 1) := by decide +kernel
theorem dX2_neighbours_32 : decode cX2_neighbours 32 = .ok (.iload_n 3, 1) := by decide +kernel
theorem dX2_neighbours_33 : decode cX2_neighbours 33 = .ok (.iconst 1, 1) := by decide +kernel
theorem dX2_neighbours_34 : decode cX2_neighbours 34 = .ok (.iadd, 1) := by decide +kernel
theorem dX2_neighbours_35 : decode cX2_neighbours 35 = .ok (.invokevirtual 30, 3) := by decide +kernel
theorem dX2_neighbours_38 : decode cX2_neighbours 38 = .ok (.iadd, 1) := by decide +kernel
theorem dX2_neighbours_39 : decode cX2_neighbours 39 = .ok (.ireturn, 1) := by decide +kernel
set_option maxRecDepth 20000 in
theorem ggX2_inColumn_X2_leafAt : GoodIn wsX2_inColumn wsX2_leafAt := goodIn_r _ [5, 6, 7, 8, 9, 4, 10, 15, 16, 17, 18, 19, 20, 21, 22] (by decide +kernel) (by decide +kernel)
set_option maxRecDepth 20000 in
theorem gX2_inColumn_X2_leafAt : GoodIn wsX2_inColumn (wsV RX2 30 RX2 yX2_leafAt wsX2_leafAt) := goodIn_app (goodIn_of _ (by decide +kernel)) ggX2_inColumn_X2_leafAt
set_option maxRecDepth 20000 in
theorem ggX2_inColumn_X2_shade : GoodIn wsX2_inColumn wsX2_shade := goodIn_r _ [14, 1, 2, 3, 4, 5, 6, 7, 8, 9, 10, 15, 16, 17, 18, 19, 20, 21, 22] (by decide +kernel) (by decide +kernel)
set_option maxRecDepth 20000 in
theorem gX2_inColumn_X2_shade : GoodIn wsX2_inColumn (wsV RX2 37 RX2 yX2_shade wsX2_shade) := goodIn_app (goodIn_of _ (by decide +kernel)) ggX2_inColumn_X2_shade
theorem dX2_inColumn_0 : decode cX2_inColumn 0 = .ok (.aload_n 0, 1) := by decide +kernel
theorem dX2_inColumn_1 : decode cX2_inColumn 1 = .ok (.iload_n 1, 1) := by decide +kernel
theorem dX2_inColumn_2 : decode cX2_inColumn 2 = .ok (.iconst 0, 1) := by decide +kernel
theorem dX2_inColumn_3 : decode cX2_inColumn 3 = .ok (.iload_n 2, 1) := by decide +kernel
theorem dX2_inColumn_4 : decode cX2_inColumn 4 = .ok (.invokevirtual 30, 3) := by decide +kernel
theorem dX2_inColumn_7 : decode cX2_inColumn 7 = .ok (.aload_n 0, 1) := by decide +kernel
theorem dX2_inColumn_8 : decode cX2_inColumn 8 = .ok (.iload_n 1, 1) := by decide +kernel
theorem dX2_inColumn_9 : decode cX2_inColumn 9 = .ok (.iconst 0, 1) := by decide +kernel
theorem dX2_inColumn_10 : decode cX2_inColumn 10 = .ok (.iload_n 2, 1) := by decide +kernel
theorem dX2_inColumn_11 : decode cX2_inColumn 11 = .ok (.invokevirtual 37, 3) := by decide +kernel
theorem dX2_inColumn_14 : decode cX2_inColumn 14 = .ok (.iadd, 1) := by decide +kernel
theorem dX2_inColumn_15 : decode cX2_inColumn 15 = .ok (.ireturn, 1) := by decide +kernel
set_option maxRecDepth 20000 in
theorem ggX2_allLeaves_X2_inColumn : GoodIn wsX2_allLeaves wsX2_inColumn := goodIn_r _ [5, 6, 7, 8, 4, 9, 10, 11, 12, 13, 14, 15, 16, 17, 18, 19, 20, 21, 22, 23, 24, 25, 26] (by decide +kernel) (by decide +kernel)
set_option maxRecDepth 20000 in
theorem gX2_allLeaves_X2_inColumn : GoodIn wsX2_allLeaves (wsV RX2 40 RX2 yX2_inColumn wsX2_inColumn) := goodIn_app (goodIn_of _ (by decide +kernel)) ggX2_allLeaves_X2_inColumn
